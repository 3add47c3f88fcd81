import java.lang.reflect.Constructor;
import java.lang.reflect.Field;
import java.lang.reflect.Member;
import java.lang.reflect.Method;
import java.lang.reflect.Modifier;
import java.util.Arrays;
import java.util.Set;
import java.util.TreeSet;

/** The public face as the document has it, and no more (LANGUAGE.md, rules 1 and 5). */
public final class FaceTest {
    private static final String[] FACE = {
        "int NONE", "int BAD", "int FULL", "int REFUSED", "int NOTHING", "ChairLeague()",
        "int chair(int,int)", "int musician(int,int,int)", "int chairOf(int,int)",
        "int musicianOf(int,int)", "int fit(int,int)", "int seat(int,int)", "int rise(int)",
        "int season()", "int would(int)", "int wouldAgain(int)", "int restless()",
        "int bid(int,int)", "int sell(int)", "int concert(int)", "int lasts(int)",
        "int raise(int)", "int promote(int)", "int hall(int)", "int ranked(int)",
        "int richest(int)", "int append(int)", "int run()", "int tell(int)",
        "int tellMusicians()", "int character(int)", "int reason(int,boolean)",
        "int account(int)", "int isBalanced()", "double meanFit()", "float fallenShare()",
        "int undo()", "int save()", "int restore()"};
    private static final Check check = new Check("FaceTest");
    private static final Set<String> found = new TreeSet<>();
    private static final Set<String> names = new TreeSet<>();

    public static void main(String[] args) {
        Class<ChairLeague> league = ChairLeague.class;
        check.due("public and final", league.getModifiers(), Modifier.PUBLIC | Modifier.FINAL);
        for (Constructor<?> constructor : league.getDeclaredConstructors()) {
            open(constructor, "ChairLeague(" + typesOf(constructor.getParameterTypes()) + ")");
        }
        for (Method method : league.getDeclaredMethods()) {
            if (open(method, method.getReturnType() + " " + method.getName() + "("
                    + typesOf(method.getParameterTypes()) + ")")) {
                names.add(method.getName());
            }
        }
        for (Field field : league.getDeclaredFields()) {
            open(field, field.getType() + " " + field.getName());
            fixed(field);
        }
        check.dueText("the face", String.join("\n", found),
                String.join("\n", new TreeSet<>(Arrays.asList(FACE))));
        namesOf(league);
        for (Class<?> inside : league.getDeclaredClasses()) {
            check.due(inside.getName() + " is static and private", inside.getModifiers()
                    & (Modifier.STATIC | Modifier.PRIVATE), Modifier.STATIC | Modifier.PRIVATE);
            namesOf(inside);
            for (Field field : inside.getDeclaredFields()) {
                fixed(field);
            }
        }
        check.finish();
    }

    /** Whether the member can be seen from without; then it is public and nothing else. */
    private static boolean open(Member member, String text) {
        if (Modifier.isPrivate(member.getModifiers())) {
            return false;
        }
        check.due(text + " is public", member.getModifiers() & Modifier.PUBLIC, Modifier.PUBLIC);
        found.add(text);
        return true;
    }

    private static void fixed(Field field) {
        if (Modifier.isStatic(field.getModifiers())) {
            check.due(field + " is final", field.getModifiers() & Modifier.FINAL, Modifier.FINAL);
        }
    }

    private static void namesOf(Class<?> inside) {
        for (Method method : inside.getDeclaredMethods()) {
            boolean isFace = inside == ChairLeague.class && Modifier.isPublic(method.getModifiers());
            if (!isFace) {
                check.due(method + " bears a name of its own",
                        names.contains(method.getName()) ? 1 : 0, 0);
            }
        }
    }

    private static String typesOf(Class<?>[] types) {
        StringBuilder text = new StringBuilder();
        for (Class<?> type : types) {
            text.append(text.length() == 0 ? "" : ",").append(type);
        }
        return text.toString();
    }
}
