import java.util.ArrayList;
import java.util.LinkedHashSet;
import java.util.List;
import java.util.Set;

/** Counts answers, and tells those that are not the ones that are due. */
final class Check {
    private static final int MOST_TOLD = 50;
    private static Check latest;

    private final String name;
    private final boolean isQuiet = Boolean.getBoolean("quiet");
    private final Set<String> parts = new LinkedHashSet<>();
    private final Set<String> wrongParts = new LinkedHashSet<>();
    private int answers;
    private int wrong;
    private String part = "";

    Check(String name) {
        this.name = name;
        latest = this;
    }

    void part(String text) {
        part = text;
        parts.add(text);
    }

    /** Begins the test of a sentence of the document, which must stand there word by word. */
    void sentence(String section, String text) {
        part(section + ": " + text);
        due("the document says so", Document.says(section, text) ? 1 : 0, 1);
    }

    Set<String> parts() {
        return parts;
    }

    Set<String> wrongParts() {
        return wrongParts;
    }

    void due(String call, long got, long want) {
        answers++;
        if (got != want) {
            tell(call, String.valueOf(got), String.valueOf(want));
        }
    }

    void dueDouble(String call, double got, double want) {
        answers++;
        if (Double.compare(got, want) != 0) {
            tell(call, String.valueOf(got), String.valueOf(want));
        }
    }

    void dueText(String call, String got, String want) {
        answers++;
        if (!got.equals(want)) {
            tell(call, got, want);
        }
    }

    /** The answer is REFUSED, for the reasons and details given in turn, and no others. */
    void refused(String call, ChairLeague x, int got, int... reasonsAndDetails) {
        due(call, got, ChairLeague.REFUSED);
        reasons(call, x, reasonsAndDetails);
    }

    /** A call of a league. */
    interface Call {
        int of(ChairLeague x);
    }

    /** The same, for a call of a league that nobody else asks. */
    void refused(ChairLeague x, String call, Call made, int... reasonsAndDetails) {
        refused(call, x, made.of(x), reasonsAndDetails);
    }

    void reasons(String call, ChairLeague x, int... reasonsAndDetails) {
        for (int depth = 0; depth < 3; depth++) {
            boolean isThere = 2 * depth < reasonsAndDetails.length;
            due(call + ", reason " + depth, x.reason(depth, false),
                    isThere ? reasonsAndDetails[2 * depth] : ChairLeague.NOTHING);
            due(call + ", detail " + depth, x.reason(depth, true),
                    isThere ? reasonsAndDetails[2 * depth + 1] : ChairLeague.NOTHING);
        }
    }

    /** The line is the text, and ends behind it. */
    void line(String call, ChairLeague x, int got, String want) {
        due(call, got, want.length());
        dueText(call + ", line", lineOf(x), want);
    }

    /** The same, for a league that nobody else asks. */
    void line(String call, ChairLeague x, Call made, String want) {
        line(call, x, made.of(x), want);
    }

    static String lineOf(ChairLeague x) {
        StringBuilder text = new StringBuilder();
        int code = x.character(0);
        while (code != ChairLeague.NONE && text.length() < 100) {
            text.append((char) code);
            code = x.character(text.length());
        }
        return text.toString();
    }

    /** All that can be asked of a league without changing it, but for text, line and reasons. */
    static List<Number> allOf(ChairLeague x) {
        List<Number> all = new ArrayList<>();
        for (int what = 0; what < 12; what++) {
            all.add(x.account(what));
        }
        int chairs = all.get(0).intValue();
        for (int k = 0; k < chairs * 8; k++) {
            all.add(x.chairOf(k / 8, k % 8));
        }
        int musicians = all.get(1).intValue();
        for (int k = 0; k < musicians * 7; k++) {
            all.add(x.musicianOf(k / 7, k % 7));
        }
        return all;
    }

    /** All but the reasons: the text as far as its length, the line, and the changes, too. */
    static List<Number> wholeOf(ChairLeague x) {
        List<Number> whole = allOf(x);
        whole.add(x.account(12));
        whole.add(x.account(13));
        for (char code : lineOf(x).toCharArray()) {
            whole.add((int) code);
        }
        return whole;
    }

    static void type(ChairLeague x, String text) {
        for (char code : text.toCharArray()) {
            x.append(code);
        }
    }

    static int run(ChairLeague x, String text) {
        type(x, text);
        return x.run();
    }

    /** A new league that has carried out texts, all of which are right. */
    static ChairLeague league(String... texts) {
        ChairLeague x = new ChairLeague();
        for (String text : texts) {
            latest.due("'" + text + "'", run(x, text), text.split(";").length);
        }
        return x;
    }

    void finish() {
        System.out.println(name + ": " + answers + " answers, " + wrong + " of them wrong");
        if (wrong != 0 || answers == 0) {
            System.exit(1);
        }
    }

    private void tell(String call, String got, String want) {
        wrong++;
        wrongParts.add(part);
        if (wrong <= MOST_TOLD && !isQuiet) {
            System.out.println(name + ", " + part + ": " + call + " answered " + got
                    + ", due is " + want);
        }
    }
}
