import java.util.ArrayList;
import java.util.List;

/** Promises 27 to 34. */
public final class ReasonsAccountsAndUndoTest {
    private static final int BAD = ChairLeague.BAD;
    private static final int NOTHING = ChairLeague.NOTHING;
    private static final int[] FAR = {Integer.MIN_VALUE, -1011, -2, -1, 14, 1 << 20,
        Integer.MAX_VALUE};
    private static final Check check = new Check("ReasonsAccountsAndUndoTest");

    public static void main(String[] args) {
        reason();
        account();
        isBalanced();
        meanFit();
        fallenShare();
        undo();
        undoOfEachChange();
        undoOfEight();
        save();
        restore();
        check.finish();
    }

    private static void reason() {
        check.part("promise 27");
        ChairLeague x = Check.league("h05;m051;m060");
        check.reasons("none", x);
        check.due("depth -1", x.reason(-1, false), BAD);
        check.due("depth 3", x.reason(3, true), BAD);
        for (int far : FAR) {
            check.due("depth " + far, x.reason(far, false), BAD);
            check.due("depth " + far, x.reason(far, true), BAD);
        }
        check.refused("not borne", x, x.seat(0, 0), 2, 0, 7, 0);
        check.due("depth 3", x.reason(3, false), BAD);
        check.due("NONE", x.seat(0, 2), ChairLeague.NONE);
        check.due("BAD", x.concert(5), BAD);
        check.due("succeeds", x.seat(0, 1), 1);
        check.reasons("kept", x, 2, 0, 7, 0);
        // Reasons are neither undone nor saved.
        x.save();
        check.refused("sits nowhere", x, x.rise(0), 8, 1);
        check.due("undo", x.undo(), 1);
        check.reasons("kept", x, 8, 1);
        check.due("restore", x.restore(), 1);
        check.reasons("kept", x, 8, 1);
        check.refused("run", x, Check.run(x, "a;s0:0"), 15, 1, 2, 0, 4, 1);
        check.due("a fault", Check.run(x, "a;"), -2002);
        check.reasons("kept", x, 15, 1, 2, 0, 4, 1);
        check.refused("one alone", x, x.raise(0), 12, 3);
    }

    private static void dueAccounts(ChairLeague x, int... due) {
        for (int what = 0; what < due.length; what++) {
            check.due("account(" + what + ")", x.account(what), due[what]);
        }
    }

    private static void account() {
        check.part("promise 28");
        ChairLeague x = new ChairLeague();
        check.due("what -1", x.account(-1), BAD);
        check.due("what 14", x.account(14), BAD);
        for (int far : FAR) {
            check.due("what " + far, x.account(far), BAD);
        }
        dueAccounts(x, 0, 0, 0, 0, 0, 10, 0, 0, 0, 0, 0, 0, 0, 0);
        Check.run(x, "h05;h15;h25;m050;m150");
        dueAccounts(x, 3, 2, 0, 0, 16, 10, 0, 0, 0, 0, 0, 0, 0, 1);
        x.season();
        dueAccounts(x, 3, 2, 2, 0, 16, 10, 0, 0, 0, 0, 1, 0, 0, 2);
        x.bid(0, 5);
        x.bid(1, 4);
        x.sell(3);
        dueAccounts(x, 3, 2, 2, 0, 12, 14, 0, 0, 0, 0, 1, 1, 0, 5);
        x.concert(4);
        dueAccounts(x, 3, 2, 2, 0, 20, 14, 8, 0, 0, 1, 1, 1, 0, 6);
        x.raise(0);
        dueAccounts(x, 3, 2, 2, 0, 20, 12, 8, 2, 0, 1, 1, 1, 0, 7);
        x.concert(4);
        x.concert(4);
        x.append('a');
        // The chair 1 has fallen, then the chair 0, and in the season 0 sits on the chair 2.
        dueAccounts(x, 3, 2, 1, 1, 36, 12, 24, 2, 0, 3, 1, 1, 1, 8);
        x.concert(4);
        dueAccounts(x, 3, 2, 0, 2, 40, 12, 28, 2, 0, 4, 1, 1, 1, 8);
        x.run();
        dueAccounts(x, 3, 2, 1, 2, 40, 12, 28, 2, 0, 4, 2, 1, 0, 8);
        check.due("undo", x.undo(), 7);
        dueAccounts(x, 3, 2, 0, 2, 40, 12, 28, 2, 0, 4, 1, 1, 0, 7);
    }

    private static void isBalanced() {
        check.part("promise 29");
        ChairLeague x = new ChairLeague();
        check.due("at first", x.isBalanced(), 1);
        String[] texts = {"h05;h15;h24;m050;m151;m230;m190", "a", "b0=5;b2=3;c4", "p3;p2", "a;p1",
            "u2;a;p4", "r0;t0", "a;b0=1;c9;a"};
        for (String text : texts) {
            check.due(text, Check.run(x, text), text.split(";").length);
            check.due("isBalanced", x.isBalanced(), 1);
        }
        for (int k = 0; k < 30; k++) {
            x.concert(1);
            check.due("isBalanced", x.isBalanced(), 1);
        }
        check.due("some are lost", x.account(8) > 0 ? 1 : 0, 1);
        check.due("sums", 10 + 8 * x.account(1) + x.account(6),
                x.account(4) + x.account(5) + x.account(7) + x.account(8));
        x.undo();
        check.due("undone", x.isBalanced(), 1);
        check.due("changes", x.account(13), 7);
    }

    private static void meanFit() {
        check.part("promise 30");
        ChairLeague x = new ChairLeague();
        check.dueDouble("nobody there", x.meanFit(), 0.0);
        Check.run(x, "h05;h15;h25;m050;m150;m260");
        check.dueDouble("nobody sits", x.meanFit(), 0.0);
        x.seat(0, 1);
        check.dueDouble("one of 9", x.meanFit(), 9.0);
        x.seat(2, 0);
        x.seat(1, 2);
        check.dueDouble("9, 9 and 8", x.meanFit(), 26.0 / 3.0);
        check.due("not rounded to float", x.meanFit() == (double) (float) x.meanFit() ? 1 : 0, 0);
        x.rise(0);
        check.dueDouble("9 and 8", x.meanFit(), 8.5);
        check.dueDouble("a mean", Check.league("h05;h15;m050;m150;m250;s0:0;s1:2").meanFit(), 11.0);
    }

    private static void fallenShare() {
        check.part("promise 31");
        ChairLeague x = new ChairLeague();
        check.dueDouble("no chairs", x.fallenShare(), 0.0f);
        Check.run(x, "h05;h15;h25;m040;m140");
        check.dueDouble("none has fallen", x.fallenShare(), 0.0f);
        Check.run(x, "s0:0;p3");
        check.dueDouble("one of three", x.fallenShare(), 1.0f / 3.0f);
        check.due("a float", x.fallenShare() == 1.0 / 3.0 ? 1 : 0, 0);
        Check.run(x, "s1:1;p3");
        check.dueDouble("two of three", x.fallenShare(), 2.0f / 3.0f);
        x.raise(0);
        check.dueDouble("one of three", x.fallenShare(), 1.0f / 3.0f);
        check.dueDouble("all", Check.league("h05;m040;a;p4").fallenShare(), 1.0f);
    }

    private static void undo() {
        check.part("promise 32");
        ChairLeague x = new ChairLeague();
        check.due("nothing", x.undo(), NOTHING);
        x.chair(0, 5);
        x.chair(4, 5);
        x.would(0);
        x.tell(0);
        x.append('a');
        x.rise(0);
        check.due("changes", x.account(13), 1);
        check.due("undo", x.undo(), 0);
        check.due("chairs", x.account(0), 0);
        check.due("nothing", x.undo(), NOTHING);
        // What comes behind an undo takes the place of what was undone.
        x = Check.league("h05", "h15", "h25");
        check.due("undo", x.undo(), 2);
        check.due("undo", x.undo(), 1);
        check.due("chair", x.chair(3, 9), 1);
        check.due("section", x.chairOf(1, 0), 3);
        check.due("undo", x.undo(), 1);
        check.due("chairs", x.account(0), 1);
        check.due("section", x.chairOf(0, 0), 0);
        check.due("undo", x.undo(), 0);
        check.due("nothing", x.undo(), NOTHING);
        // A change behind an undone one is undone alone.
        for (int kind = 0; kind < 2; kind++) {
            x = Check.league("h05;m050", "h15");
            x.undo();
            int answer = kind == 0 ? x.chair(2, 9) : x.musician(2, 9, 0);
            check.due("brought", answer, 1);
            check.due("undo", x.undo(), 1);
            check.due("chairs", x.account(0), 1);
            check.due("musicians", x.account(1), 1);
        }
        // Changes by which nothing is different are changes.
        x = Check.league("h05;m050;a");
        x.season();
        x.bid(0, 0);
        check.due("changes", x.account(13), 3);
        check.due("undo", x.undo(), 2);
        check.due("undo", x.undo(), 1);
        check.due("sits", x.account(2), 1);
    }

    /** Each kind of change is undone whole. */
    private static void undoOfEachChange() {
        check.part("promise 32, each change");
        String before = "h05;h14;h39;m050;m140;m380;a;b0=5;b1=3;b2=4;p1;p1;p1";
        String[] changes = {"h22", "m273", "s2:2", "r0", "a", "b0=7", "c6", "p4", "u2", "t0",
            "r0;r1;a;b0=1;c2;p4;p4;t0;t0;u0;h11;m111"};
        for (String change : changes) {
            String text = change.equals("s2:2") ? "u2;s2:2" : change;
            ChairLeague x = Check.league(before);
            List<Number> all = Check.allOf(x);
            check.due(text, Check.run(x, text) > 0 ? 1 : 0, 1);
            check.due(text + " changes something", all.equals(Check.allOf(x)) ? 1 : 0, 0);
            check.due("undo", x.undo(), 1);
            check.due(text + " is undone", all.equals(Check.allOf(x)) ? 1 : 0, 1);
        }
        undoOfCalls(before);
    }

    private static void undoOfCalls(String before) {
        List<List<Number>> states = new ArrayList<>();
        for (int change = 0; change < 10; change++) {
            states.add(Check.allOf(changed(before, change)));
        }
        // One undo more on each of these, as a league is asked no more than 512 times.
        for (int undone = 1; undone <= 8; undone++) {
            ChairLeague x = changed(before, 10);
            for (int k = 1; k <= undone; k++) {
                check.due("undo", x.undo(), 8 - k);
            }
            check.due(undone + " are undone",
                    states.get(10 - undone).equals(Check.allOf(x)) ? 1 : 0, 1);
            check.due("another", x.undo(), undone < 8 ? 7 - undone : NOTHING);
        }
    }

    private static ChairLeague changed(String before, int changes) {
        ChairLeague x = Check.league(before);
        for (int change = 0; change < changes; change++) {
            check.due("change " + change, call(x, change) >= 0 ? 1 : 0, 1);
            check.due("changes", x.account(13), Math.min(change + 2, 8));
        }
        return x;
    }

    private static int call(ChairLeague x, int change) {
        switch (change) {
            case 0: return x.chair(2, 2);
            case 1: return x.musician(2, 7, 3);
            case 2: return x.raise(2);
            case 3: return x.seat(2, 2);
            case 4: return x.bid(0, 7);
            case 5: return x.sell(6);
            case 6: return x.concert(4);
            case 7: return x.promote(0);
            case 8: return x.rise(1);
            default: return x.season();
        }
    }

    private static void undoOfEight() {
        check.part("promise 32, eight");
        ChairLeague x = new ChairLeague();
        for (int k = 1; k <= 9; k++) {
            x.chair(0, k);
        }
        check.due("changes", x.account(13), 8);
        for (int k = 7; k >= 0; k--) {
            check.due("undo", x.undo(), k);
            check.due("chairs", x.account(0), k + 1);
        }
        check.due("nothing", x.undo(), NOTHING);
        check.due("chairs", x.account(0), 1);
        for (int k = 0; k < 30; k++) {
            x.season();
            check.due("changes", x.account(13), Math.min(k + 1, 8));
        }
        for (int k = 7; k >= 5; k--) {
            check.due("undo", x.undo(), k);
        }
        check.due("seasons", x.account(10), 27);
        x.season();
        x.season();
        check.due("undo", x.undo(), 6);
        check.due("seasons", x.account(10), 28);
        // Refusals and undone changes take no place of the eight.
        for (int k = 0; k < 20; k++) {
            x.concert(1);
        }
        check.due("changes", x.account(13), 6);
    }

    private static void save() {
        check.part("promise 33");
        ChairLeague x = Check.league("h05;h15;m050;a");
        check.due("save", x.save(), 2);
        check.due("changes", x.account(13), 1);
        List<Number> all = Check.allOf(x);
        Check.run(x, "h25;m250;p4;b0=3;c4");
        check.due("no change", x.account(13), 2);
        check.due("undo", x.undo(), 1);
        check.due("undo", x.undo(), 0);
        check.due("chairs", x.account(0), 0);
        check.due("restore", x.restore(), 2);
        check.due("as saved", all.equals(Check.allOf(x)) ? 1 : 0, 1);
        // In place of an earlier one.
        Check.run(x, "h25;h35");
        check.due("save", x.save(), 4);
        Check.run(x, "h05");
        check.due("restore", x.restore(), 4);
        check.due("chairs", x.account(0), 4);
        // Others have come in the place of those who were saved.
        x = Check.league("h37", "m268");
        x.save();
        x.undo();
        x.undo();
        Check.run(x, "h01;m010");
        check.due("restore", x.restore(), 1);
        check.due("section", x.chairOf(0, 0), 3);
        check.due("need", x.chairOf(0, 1), 7);
        check.due("section", x.musicianOf(0, 0), 2);
        check.due("skill", x.musicianOf(0, 1), 6);
        check.due("demand", x.musicianOf(0, 2), 8);
        ChairLeague empty = new ChairLeague();
        check.due("save", empty.save(), 0);
        empty.chair(0, 5);
        check.due("restore", empty.restore(), 0);
        check.due("chairs", empty.account(0), 0);
    }

    private static void restore() {
        check.part("promise 34");
        ChairLeague x = Check.league("h05;h14;m050;m140;a;b0=5;b1=3;p4;p1;p1;u1;t0");
        check.due("nothing", x.restore(), NOTHING);
        check.due("chairs", x.account(0), 2);
        check.due("changes", x.account(13), 1);
        x.save();
        List<Number> all = Check.allOf(x);
        Check.run(x, "c6;p4;p4;r1;h22;m331;a;t0");
        x.season();
        check.due("changes", x.account(13), 3);
        check.due("restore", x.restore(), 2);
        check.due("as saved", all.equals(Check.allOf(x)) ? 1 : 0, 1);
        check.due("changes", x.account(13), 0);
        check.due("nothing to undo", x.undo(), NOTHING);
        // The snapshot stays.
        x.concert(4);
        check.due("undo", x.undo(), 0);
        x.concert(4);
        x.chair(0, 5);
        check.due("restore again", x.restore(), 2);
        check.due("as saved", all.equals(Check.allOf(x)) ? 1 : 0, 1);
        check.due("nothing to undo", x.undo(), NOTHING);
        check.due("as saved", all.equals(Check.allOf(x)) ? 1 : 0, 1);
        // New ones are counted from the start.
        for (int k = 1; k <= 10; k++) {
            x.season();
            check.due("changes", x.account(13), Math.min(k, 8));
        }
        for (int k = 7; k >= 0; k--) {
            check.due("undo", x.undo(), k);
        }
        check.due("nothing to undo", x.undo(), NOTHING);
        check.due("seasons", x.account(10), 3);
    }
}
