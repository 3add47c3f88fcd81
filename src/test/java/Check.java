import java.util.ArrayList;
import java.util.List;

/** Counts answers, and tells those that are not the ones that are due. */
final class Check {
    private final String name;
    private int answers;
    private int wrong;
    private String part = "";

    Check(String name) {
        this.name = name;
    }

    void part(String text) {
        part = text;
    }

    void due(String call, long got, long want) {
        answers++;
        if (got != want) {
            tell(call, String.valueOf(got), String.valueOf(want));
        }
    }

    void dueDouble(String call, double got, double want) {
        answers++;
        if (Double.compare(got, want) != 0) {
            tell(call, String.valueOf(got), String.valueOf(want));
        }
    }

    void dueText(String call, String got, String want) {
        answers++;
        if (!got.equals(want)) {
            tell(call, got, want);
        }
    }

    /** The answer is REFUSED, for the reasons and details given in turn, and no others. */
    void refused(String call, ChairLeague x, int got, int... reasonsAndDetails) {
        due(call, got, ChairLeague.REFUSED);
        reasons(call, x, reasonsAndDetails);
    }

    void reasons(String call, ChairLeague x, int... reasonsAndDetails) {
        for (int depth = 0; depth < 3; depth++) {
            boolean isThere = 2 * depth < reasonsAndDetails.length;
            due(call + ", reason " + depth, x.reason(depth, false),
                    isThere ? reasonsAndDetails[2 * depth] : ChairLeague.NOTHING);
            due(call + ", detail " + depth, x.reason(depth, true),
                    isThere ? reasonsAndDetails[2 * depth + 1] : ChairLeague.NOTHING);
        }
    }

    /** The line is the text, and ends behind it. */
    void line(String call, ChairLeague x, int got, String want) {
        due(call, got, want.length());
        dueText(call + ", line", lineOf(x), want);
    }

    static String lineOf(ChairLeague x) {
        StringBuilder text = new StringBuilder();
        for (int k = 0; k < 1000 && x.character(k) != ChairLeague.NONE; k++) {
            text.append((char) x.character(k));
        }
        return text.toString();
    }

    /** All that can be asked of a league without changing it, but for text, line and reasons. */
    static List<Number> allOf(ChairLeague x) {
        List<Number> all = new ArrayList<>();
        for (int k = 0; k < 10; k++) {
            for (int what = 0; what < 8; what++) {
                all.add(x.chairOf(k, what));
                all.add(x.musicianOf(k, what));
            }
        }
        for (int what = 0; what < 12; what++) {
            all.add(x.account(what));
        }
        return all;
    }

    static void type(ChairLeague x, String text) {
        for (char code : text.toCharArray()) {
            x.append(code);
        }
    }

    static int run(ChairLeague x, String text) {
        type(x, text);
        return x.run();
    }

    /** A new league that has carried out texts. */
    static ChairLeague league(String... texts) {
        ChairLeague x = new ChairLeague();
        for (String text : texts) {
            int answer = run(x, text);
            if (answer < 0) {
                throw new IllegalStateException("'" + text + "' answered " + answer);
            }
        }
        return x;
    }

    void finish() {
        System.out.println(name + ": " + answers + " answers, " + wrong + " of them wrong");
        if (wrong != 0 || answers == 0) {
            System.exit(1);
        }
    }

    private void tell(String call, String got, String want) {
        wrong++;
        if (wrong <= 50) {
            System.out.println(name + ", " + part + ": " + call + " answered " + got
                    + ", due is " + want);
        }
    }
}
