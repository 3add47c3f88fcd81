import java.util.List;

/** Each sentence of the promises 1 to 34 that names a boundary case, with a test of its own. */
public final class BoundariesOfPromisesTest {
    private static final int NONE = ChairLeague.NONE;
    private static final int BAD = ChairLeague.BAD;
    private static final int FULL = ChairLeague.FULL;
    private static final int REFUSED = ChairLeague.REFUSED;
    private static final int NOTHING = ChairLeague.NOTHING;
    private static final String NINE_CHAIRS = "h05;h05;h05;h05;h05;h05;h05;h05;h05";
    private static final String NINE_MUSICIANS = "m050;m050;m050;m050;m050;m050;m050;m050;m050";
    private static final Check check = new Check("BoundariesOfPromisesTest");

    public static void main(String[] args) {
        all().finish();
    }

    static Check all() {
        uses();
        newObject();
        chair();
        musician();
        chairOf();
        musicianOf();
        fit();
        seat();
        rise();
        season();
        would();
        wouldAgain();
        restless();
        bid();
        sell();
        concert();
        lasts();
        raise();
        promote();
        hall();
        ranked();
        richest();
        append();
        run();
        tell();
        tellMusicians();
        character();
        reason();
        account();
        isBalanced();
        meanFit();
        fallenShare();
        undo();
        save();
        restore();
        return check;
    }

    private static void sentence(int promise, String text) {
        check.sentence("Promise " + promise, text);
    }

    private static ChairLeague tenAndTen() {
        return Check.league(NINE_CHAIRS + ";h05", NINE_MUSICIANS + ";m050");
    }

    private static void concerts(ChairLeague x, int weight, int times) {
        for (int k = 0; k < times; k++) {
            x.concert(weight);
        }
    }

    private static void uses() {
        check.sentence("What it is", "An object is used for at most 512 calls after it has been "
                + "made");
        ChairLeague x = new ChairLeague();
        for (int k = 0; k < 10; k++) {
            x.chair(0, 5);
            x.musician(0, 5, 0);
        }
        x.season();
        for (int call = 22; call < 507; call++) {
            check.due("call " + call, x.concert(1), 130);
        }
        // Nothing that is counted runs over, or into something else.
        check.due("call 507, concerts", x.account(9), 485);
        check.due("call 508, marks", x.chairOf(0, 6), 13 * 485);
        check.due("call 509, halls", x.account(6), 40 * 485);
        check.due("call 510, lost", x.account(8), 40 * 485 - 910);
        check.due("call 511, played", x.musicianOf(9, 6), 485);
        check.due("call 512, isBalanced", x.isBalanced(), 1);
        x = new ChairLeague();
        for (int call = 1; call < 512; call++) {
            x.season();
        }
        check.due("call 512, undo", x.undo(), 7);
        x = new ChairLeague();
        for (int call = 1; call < 512; call++) {
            check.due("call " + call, x.season(), 0);
        }
        check.due("call 512", x.account(10), 511);
    }

    private static void newObject() {
        sentence(1, "Begins without chairs and musicians.");
        ChairLeague x = new ChairLeague();
        check.due("chairs", x.account(0), 0);
        check.due("musicians", x.account(1), 0);
        check.due("chair 0", x.chairOf(0, 0), NONE);
        check.due("musician 0", x.musicianOf(0, 0), NONE);
        check.due("fit", x.fit(0, 0), NONE);
        check.due("the first chair", x.chair(0, 5), 0);
        check.due("the first musician", x.musician(0, 5, 0), 0);
        // One that is made behind another knows nothing of it.
        check.due("another", new ChairLeague().account(0), 0);
    }

    private static void chair() {
        sentence(2, "Returns its number; BAD if a number is out of range; REFUSED for the reason "
                + "1.");
        ChairLeague x = new ChairLeague();
        for (int k = 0; k < 10; k++) {
            check.due("BAD", x.chair(-1, 5), BAD);
            check.due("BAD", x.chair(4, 5), BAD);
            check.due("BAD", x.chair(0, 0), BAD);
            check.due("BAD", x.chair(0, 10), BAD);
            check.due("its number", x.chair(3, 9), k);
        }
        check.reasons("none yet", x);
        check.refused("the reason 1", x, x.chair(0, 1), 1, 10);
        check.due("BAD", x.chair(0, 10), BAD);
        x.undo();
        check.due("room again", x.chair(0, 1), 9);
    }

    private static void musician() {
        sentence(3, "Returns the number; BAD if a number is out of range; REFUSED for the reason "
                + "1.");
        ChairLeague x = new ChairLeague();
        for (int k = 0; k < 10; k++) {
            check.due("BAD", x.musician(-1, 5, 0), BAD);
            check.due("BAD", x.musician(4, 5, 0), BAD);
            check.due("BAD", x.musician(0, 0, 0), BAD);
            check.due("BAD", x.musician(0, 10, 0), BAD);
            check.due("BAD", x.musician(0, 5, -1), BAD);
            check.due("BAD", x.musician(0, 5, 10), BAD);
            check.due("the number", x.musician(3, 9, 9), k);
        }
        check.reasons("none yet", x);
        check.refused("the reason 1", x, x.musician(0, 1, 0), 1, 10);
        check.due("BAD", x.musician(0, 10, 0), BAD);
        x.undo();
        check.due("room again", x.musician(0, 1, 0), 9);
    }

    private static void chairOf() {
        sentence(4, "0 for its section, 1 for its need, 2 for its cushion, 3 for its stand, 4 for "
                + "its tier, 5 for its comfort, 6 for its marks, 7 for its musician, NOTHING if it "
                + "has none");
        ChairLeague x = Check.league("h05;h05;m050");
        check.due("none", x.chairOf(0, 7), NOTHING);
        x.seat(0, 0);
        check.due("musician 0", x.chairOf(0, 7), 0);
        check.due("none", x.chairOf(1, 7), NOTHING);
        x.rise(0);
        check.due("none", x.chairOf(0, 7), NOTHING);
        x = Check.league("h09;m080;a;p3");
        check.due("fallen", x.chairOf(0, 7), NOTHING);
        // The most, and the least but for the musician.
        x = Check.league(NINE_CHAIRS + ";h39", NINE_MUSICIANS + ";m390", "s9:9;b9=1;c9",
                "p1;p1;p1;p1;t9;t9;p4");
        int[] most = {3, 9, 9, 2, 2, 15, 65, 9};
        int[] least = {0, 5, 0, 3, 0, 0, 0, NOTHING};
        for (int what = 0; what < 8; what++) {
            check.due("the most, " + what, x.chairOf(9, what), most[what]);
            check.due("the least, " + what, x.chairOf(0, what), least[what]);
        }

        sentence(4, "Returns the number; NONE if there is no such chair; BAD if what is not from 0 "
                + "to 7.");
        x = Check.league("h37;m370;a");
        int[] due = {3, 7, 0, 3, 0, 0, 0, 0};
        for (int what = 0; what < 8; what++) {
            check.due("what " + what, x.chairOf(0, what), due[what]);
            check.due("chair 1", x.chairOf(1, what), NONE);
            check.due("chair -1", x.chairOf(-1, what), NONE);
        }
        check.due("what -1", x.chairOf(0, -1), BAD);
        check.due("what 8", x.chairOf(0, 8), BAD);
        check.due("the ninth of ten", tenAndTen().chairOf(9, 1), 5);
    }

    private static void musicianOf() {
        sentence(5, "0 for the section, 1 for the skill, 2 for the demand, 3 for the coins, 4 for "
                + "the bid, 5 for the chair, NOTHING for one who does not sit, 6 for the concerts "
                + "played so far");
        ChairLeague x = Check.league("h05;m040;m050");
        check.due("does not sit", x.musicianOf(0, 5), NOTHING);
        check.due("no concerts", x.musicianOf(0, 6), 0);
        x.seat(0, 0);
        check.due("chair 0", x.musicianOf(0, 5), 0);
        x.concert(1);
        check.due("one", x.musicianOf(0, 6), 1);
        x.concert(1);
        check.due("two", x.musicianOf(0, 6), 2);
        x.concert(1);
        check.due("the one by which the chair falls", x.musicianOf(0, 6), 3);
        check.due("does not sit", x.musicianOf(0, 5), NOTHING);
        check.due("who never sat", x.musicianOf(1, 6), 0);
        check.due("who never sat", x.musicianOf(1, 5), NOTHING);
        x = Check.league(NINE_CHAIRS + ";h39", NINE_MUSICIANS + ";m390", "s9:9;p1;b9=12");
        int[] numbers = {3, 9, 0, 12, 12, 9, 1};
        for (int what = 0; what < 7; what++) {
            check.due("the last of ten, " + what, x.musicianOf(9, what), numbers[what]);
        }

        sentence(5, "Returns the number; NONE if there is no such musician; BAD if what is not from "
                + "0 to 6.");
        x = Check.league("h26;m269;m150");
        int[] due = {2, 6, 9, 8, 0, NOTHING, 0};
        for (int what = 0; what < 7; what++) {
            check.due("what " + what, x.musicianOf(0, what), due[what]);
            check.due("musician 2", x.musicianOf(2, what), NONE);
            check.due("musician -1", x.musicianOf(-1, what), NONE);
        }
        check.due("what -1", x.musicianOf(0, -1), BAD);
        check.due("what 7", x.musicianOf(0, 7), BAD);
        check.due("the last of ten", tenAndTen().musicianOf(9, 1), 5);
    }

    private static void fit() {
        sentence(6, "Returns the fit; NONE if there is no such chair or musician.");
        ChairLeague x = Check.league("h05;h19;m050");
        check.due("13", x.fit(0, 0), 13);
        check.due("5", x.fit(1, 0), 5);
        check.due("chair 2", x.fit(2, 0), NONE);
        check.due("chair -1", x.fit(-1, 0), NONE);
        check.due("musician 1", x.fit(1, 1), NONE);
        check.due("musician -1", x.fit(0, -1), NONE);
        check.due("neither", x.fit(2, 1), NONE);
        check.due("the last of ten", tenAndTen().fit(9, 9), 13);
        check.due("no musicians", Check.league("h05").fit(0, 0), NONE);
        check.due("no chairs", Check.league("m050").fit(0, 0), NONE);
    }

    private static void seat() {
        sentence(7, "Returns how many sit then; NONE if there is no such chair or musician; REFUSED "
                + "for the reason 2, with 3, 4, 5, 6 or 7 behind it, in this order.");
        ChairLeague x = tenAndTen();
        for (int k = 0; k < 10; k++) {
            check.due("chair 10", x.seat(10, k), NONE);
            check.due("chair -1", x.seat(-1, k), NONE);
            check.due("musician 10", x.seat(k, 10), NONE);
            check.due("musician -1", x.seat(k, -1), NONE);
            check.due("how many sit", x.seat(k, 9 - k), k + 1);
        }
        check.reasons("none yet", x);
        // What stands in the way of the reason behind is taken away, one after the other.
        x = Check.league("h09;h35;m080;m340;m139;s0:0;p1;p1;s1:1");
        check.refused("4 ahead of 7", x, x.seat(1, 2), 2, 2, 4, 1);
        x.rise(1);
        check.refused("7", x, x.seat(1, 2), 2, 2, 7, 0);
        x.concert(1);
        check.refused("3 ahead of 6 and 7", x, x.seat(0, 2), 2, 2, 3, 1);
        x.seat(1, 1);
        check.refused("3 ahead of 5 and 6", x, x.seat(0, 1), 2, 1, 3, 1);
        x.raise(0);
        check.refused("5 ahead of 6", x, x.seat(0, 1), 2, 1, 5, 1);
        check.refused("4 ahead of 5", x, x.seat(1, 1), 2, 1, 4, 1);
        x.rise(1);
        check.refused("6", x, x.seat(0, 1), 2, 1, 6, 4);
        check.refused("6 ahead of 7", x, x.seat(0, 2), 2, 2, 6, 3);
        x = Check.league("h05;m059");
        check.refused("7 alone", x, x.seat(0, 0), 2, 0, 7, 0);
    }

    private static void rise() {
        sentence(8, "Returns the chair that is left; NONE if there is no such musician; REFUSED for "
                + "the reason 8.");
        ChairLeague x = tenAndTen();
        check.refused("nobody sits", x, x.rise(9), 8, 0);
        for (int k = 0; k < 10; k++) {
            x.seat(k, 9 - k);
        }
        check.due("musician 10", x.rise(10), NONE);
        check.due("musician -1", x.rise(-1), NONE);
        for (int k = 0; k < 10; k++) {
            check.due("the chair", x.rise(k), 9 - k);
            check.refused("again", x, x.rise(k), 8, 9 - k);
        }
    }

    private static void season() {
        sentence(9, "Returns how many sit then.");
        check.due("nobody there", new ChairLeague().season(), 0);
        check.due("no musicians", Check.league("h05").season(), 0);
        check.due("no chairs", Check.league("m050").season(), 0);
        check.due("not wanted", Check.league("h05;m190").season(), 0);
        check.due("not borne", Check.league("h05;m051").season(), 0);
        check.due("one", Check.league("h05;m180").season(), 1);
        check.due("fewer chairs", Check.league("h05;m050;m050").season(), 1);
        check.due("fewer musicians", Check.league("h05;h05;m050").season(), 1);
        check.due("fallen", Check.league("h09;m080;a;p3").season(), 0);
        ChairLeague x = tenAndTen();
        check.due("all", x.season(), 10);
        check.due("all again", x.season(), 10);
    }

    private interface Way {
        int of(ChairLeague x, int chair);
    }

    /** Who sits on chair 0 first comes to be asked by chair 1 later, and leaves. */
    private static void dueLeft(Way way) {
        ChairLeague x = Check.league("h05;h05;h05;m050;m060;s1:0;b0=1;c4");
        check.due("the next one", way.of(x, 0), 1);
        check.due("the one who chooses", way.of(x, 1), 0);
        check.due("nobody else", way.of(x, 2), NOTHING);
        check.due("now another has come", Check.run(x, "m040"), 1);
        check.due("the last one", way.of(x, 2), 2);
        // Chair 1 asks 1 ahead of 0, who sits on chair 0 by then.
        x = Check.league("h05;h15;m050;s1:0;b0=1;c4;r0;m159;m080");
        check.due("who is left asks on", way.of(x, 0), 2);
        check.due("for the greater comfort", way.of(x, 1), 0);
    }

    private static void dueWay(Way way) {
        check.due("none there", way.of(new ChairLeague(), 0), NONE);
        check.due("no musicians", way.of(Check.league("h05"), 0), NOTHING);
        check.due("not wanted", way.of(Check.league("h05;m190"), 0), NOTHING);
        check.due("just wanted", way.of(Check.league("h05;m180"), 0), 0);
        check.due("not borne", way.of(Check.league("h05;m051"), 0), NOTHING);
        check.due("fallen", way.of(Check.league("h09;m080;a;p3"), 0), NOTHING);
        check.due("taken from", way.of(Check.league("h05;h05;m050;s1:0;b0=1;c1"), 0), NOTHING);
        ChairLeague x = tenAndTen();
        List<Number> whole = Check.wholeOf(x);
        for (int chair = 0; chair < 10; chair++) {
            check.due("chair " + chair, way.of(x, chair), chair);
        }
        check.due("chair 10", way.of(x, 10), NONE);
        check.due("chair -1", way.of(x, -1), NONE);
        check.due("nobody sits by that", whole.equals(Check.wholeOf(x)) ? 1 : 0, 1);
        // All would rise first: who sits now sits elsewhere then, and a taken chair has another.
        x = Check.league("h05;h05;m070;s0:0;m050");
        check.due("who would rather be had", way.of(x, 0), 1);
        check.due("the other", way.of(x, 1), 0);
        // The most that can be asked: all ten chairs want the same, and each is left in turn.
        x = new ChairLeague();
        x.musician(0, 5, 0);
        for (int chair = 0; chair < 9; chair++) {
            x.chair(0, 5);
            x.seat(chair, 0);
            x.bid(0, 1);
            x.sell(chair + 1);
            x.rise(0);
        }
        x.chair(0, 5);
        for (int k = 1; k < 10; k++) {
            x.musician(0, 5, 0);
        }
        for (int chair = 0; chair < 9; chair++) {
            check.due("chair " + chair, way.of(x, chair), 8 - chair);
        }
        check.due("chair 9", way.of(x, 9), 9);
    }

    private static void would() {
        sentence(10, "Returns whom a chair would have if a season began now: chair by chair, the "
                + "lowest that can ask first.");
        dueLeft(ChairLeague::would);

        sentence(10, "Returns the musician, NOTHING if it would have none; NONE if there is no such "
                + "chair.");
        dueWay(ChairLeague::would);
    }

    private static void wouldAgain() {
        sentence(11, "Returns the same by a second way: in rounds, in each of which all chairs that "
                + "can ask do at once, and musicians choose.");
        dueLeft(ChairLeague::wouldAgain);

        sentence(11, "Returns the musician, NOTHING if it would have none; NONE if there is no such "
                + "chair.");
        dueWay(ChairLeague::wouldAgain);
    }

    private static void dueRestless(String text, int pairs) {
        check.due(text, Check.league(text).restless(), pairs);
    }

    private static void restless() {
        sentence(12, "Returns how many pairs of a chair that has not fallen and a musician would "
                + "rather have each other: the chair wants the musician, has none or one than whom "
                + "it would rather have that one, and the musician bears the chair, and sits on "
                + "none or on one than which this is rather had.");
        check.due("nobody there", new ChairLeague().restless(), 0);
        dueRestless("h05", 0);
        dueRestless("m050", 0);
        dueRestless("h05;m050", 1);
        dueRestless("h05;m050;s0:0", 0);
        dueRestless("h09;m080;a;p2;r0", 1);
        dueRestless("h09;m080;a;p3", 0);
        dueRestless("h05;m180", 1);
        dueRestless("h05;m190", 0);
        dueRestless("h05;m051", 0);
        dueRestless("h05;m050;m051;s0:0;b0=1;c1;r0", 2);
        dueRestless("h05;m060;m050;s0:0", 1);
        dueRestless("h05;m060;m040;s0:0", 0);
        dueRestless("h05;m060;m040;s0:1", 1);
        dueRestless("h05;h05;m050;s1:0", 1);
        dueRestless("h05;h05;m050;s0:0", 0);
        dueRestless("h05;h05;m050;s1:0;b0=1;c1", 0);
        dueRestless("h05;h05;m050;s1:0;b0=1;c1;r0;s0:0", 1);
        // Both would rather have each other, though each has one.
        dueRestless("h05;h05;m050;m060;s0:1;s1:0", 1);
        ChairLeague x = tenAndTen();
        check.due("all with all", x.restless(), 100);
        x.season();
        check.due("behind a season", x.restless(), 0);
    }

    private static void bid() {
        sentence(13, "how many coins, 0 to 99");
        ChairLeague x = Check.league("h05;m050;a");
        concerts(x, 1, 23);
        check.due("0", x.bid(0, 0), 0);
        check.due("99", x.bid(0, 99), 0);
        check.due("-1", x.bid(0, -1), BAD);
        check.due("100", x.bid(0, 100), BAD);
        check.due("1", x.bid(0, 1), 99);

        sentence(13, "Returns the bid before; NONE if there is no such musician; BAD if the number "
                + "is out of range; REFUSED for the reason 8 or 9.");
        x = Check.league("h05;m050;m050;s0:0");
        check.due("none before", x.bid(0, 5), 0);
        check.due("5 before", x.bid(0, 8), 5);
        check.due("musician 2", x.bid(2, 1), NONE);
        check.due("musician -1", x.bid(-1, 1), NONE);
        check.due("BAD", x.bid(1, 100), BAD);
        check.due("BAD", x.bid(1, -1), BAD);
        check.refused("8", x, x.bid(1, 99), 8, 1);
        check.refused("9", x, x.bid(0, 9), 9, 8);
        check.due("8 before", x.bid(0, 0), 8);
        check.due("0 before", x.bid(0, 0), 0);
    }

    private static void sell() {
        sentence(14, "Returns how many coins are paid for it; BAD if it is out of range; REFUSED "
                + "for the reason 10.");
        ChairLeague x = Check.league("h05;h15;m050;m150;a");
        check.refused("10", x, x.sell(9), 10, 2);
        check.due("0", x.sell(0), BAD);
        check.due("10", x.sell(10), BAD);
        Check.run(x, "b0=8");
        check.due("alone", x.sell(1), 0);
        Check.run(x, "b0=8;b1=1");
        check.due("1", x.sell(9), 1);
        Check.run(x, "b0=7;b1=7");
        check.due("as high", x.sell(9), 7);
        check.refused("10 again", x, x.sell(9), 10, 2);
    }

    private static void concert() {
        sentence(15, "Returns the fits of all who sit together; BAD if the weight is out of range; "
                + "REFUSED for the reason 11.");
        ChairLeague x = new ChairLeague();
        check.refused("nobody there", x, x.concert(1), 11, 0);
        check.due("0", x.concert(0), BAD);
        check.due("5", x.concert(5), BAD);
        x = tenAndTen();
        check.refused("nobody sits", x, x.concert(4), 11, 10);
        x.seat(9, 9);
        check.due("one", x.concert(1), 13);
        x.season();
        check.due("ten", x.concert(4), 130);
        check.due("the least", Check.league("h05;m180;a").concert(1), 6);
    }

    private static void dueLasts(String text, int... due) {
        ChairLeague x = Check.league(text);
        for (int weight = 1; weight <= 4; weight++) {
            check.due(text + ": lasts(" + weight + ")", x.lasts(weight), due[weight - 1]);
        }
        check.due("no change", x.account(13), 1);
    }

    private static void lasts() {
        sentence(16, "Returns how many concerts of a weight could be given one after the other "
                + "before a stand falls.");
        for (int weight = 1; weight <= 4; weight++) {
            dueLastsAsGiven("h09;h15;h24;h31;m080;m170;m210;m310;a", weight);
            dueLastsAsGiven("h09;h15;h24;h31;m090;m140;m230;m310;a;p1", weight);
            dueLastsAsGiven("h05;m050;a", weight);
        }

        sentence(16, "Returns how many, 0 if one falls in the first; BAD if the weight is out of "
                + "range; NOTHING if none would ever fall.");
        check.due("0", new ChairLeague().lasts(0), BAD);
        check.due("5", new ChairLeague().lasts(5), BAD);
        check.due("nobody there", new ChairLeague().lasts(4), NOTHING);
        dueLasts("h05;m050", NOTHING, NOTHING, NOTHING, NOTHING);
        dueLasts("h05;m050;a", NOTHING, NOTHING, NOTHING, 2);
        dueLasts("h05;m060;a", NOTHING, NOTHING, NOTHING, 2);
        dueLasts("h05;m040;a", 2, 1, 0, 0);
        dueLasts("h05;m040;a;p1", 1, 0, 0, 0);
        dueLasts("h05;m040;a;p2", 0, 0, 0, 0);
        dueLasts("h05;m040;a;p3", NOTHING, NOTHING, NOTHING, NOTHING);
        dueLasts("h05;m050;a;p4", NOTHING, NOTHING, NOTHING, 1);
        dueLasts("h05;m050;a;p4;p4", NOTHING, NOTHING, NOTHING, 0);
        dueLasts("h05;h15;m050;m140;s0:0;p4;s1:1", 2, 1, 0, 0);
        dueLasts("h05;h15;m040;m150;a;p4;p4;u0;m040", NOTHING, NOTHING, NOTHING, 0);
    }

    /** As many concerts can be given, and in the next one a stand falls. */
    private static void dueLastsAsGiven(String text, int weight) {
        ChairLeague x = Check.league(text);
        int due = x.lasts(weight);
        int concerts = 0;
        for (int k = 0; k < 20; k++) {
            x.concert(weight);
            concerts += x.account(3) == 0 ? 1 : 0;
        }
        check.due(text + ": lasts(" + weight + ")", due, concerts == 20 ? NOTHING : concerts);
    }

    private static void raise() {
        sentence(17, "Returns the coins of the league then; NONE if there is no such chair; REFUSED "
                + "for the reason 12, if the stand is 3 or more, or 9.");
        ChairLeague x = Check.league("h05;h05;h05;m040;m040;m040;a;p1;r1;p1;r2;p3");
        check.due("chair 3", x.raise(3), NONE);
        check.due("chair -1", x.raise(-1), NONE);
        check.due("a stand of 0", x.raise(0), 8);
        check.due("a stand of 2", x.raise(1), 6);
        check.due("a stand of 1", x.raise(2), 4);
        for (int chair = 0; chair < 3; chair++) {
            check.refused("a stand of 3", x, x.raise(chair), 12, 3);
        }
        Check.run(x, "a;p1;u0;u1");
        check.refused("no coins, and a stand of 3", x, x.raise(0), 12, 3);
        check.refused("no coins", x, x.raise(2), 9, 0);
        check.due("the stand stays", x.chairOf(2, 3), 2);
    }

    private static void promote() {
        sentence(18, "Returns its tier then; NONE if there is no such chair; REFUSED for the reason "
                + "13 or 14.");
        ChairLeague x = Check.league("h05;h15;m080;a");
        check.due("chair 2", x.promote(2), NONE);
        check.due("chair -1", x.promote(-1), NONE);
        check.refused("no marks", x, x.promote(0), 14, 20);
        concerts(x, 1, 2);
        check.due("20 marks", x.promote(0), 1);
        check.refused("20 marks", x, x.promote(0), 14, 20);
        concerts(x, 1, 2);
        check.due("40 marks", x.promote(0), 2);
        check.refused("the tier 2", x, x.promote(0), 13, 40);
        check.refused("the other has none", x, x.promote(1), 14, 20);
    }

    private static void hall() {
        sentence(19, "the tier, 0 to 2");
        ChairLeague x = new ChairLeague();
        check.due("-1", x.hall(-1), BAD);
        check.due("3", x.hall(3), BAD);
        check.due("0", x.hall(0), 0);
        check.due("2", x.hall(2), 0);

        sentence(19, "Returns their set, bit k for the chair k; BAD if there is no such tier.");
        x = new ChairLeague();
        for (int k = 0; k < 10; k++) {
            x.chair(0, 5);
            check.due("the first " + (k + 1), x.hall(0), (1 << k + 1) - 1);
        }
        Check.run(x, "m050;m050;s9:0;s0:1;p1;p1;p1;p1;t9;t9;t0");
        check.due("the tier 0", x.hall(0), 0b0111111110);
        check.due("the tier 1", x.hall(1), 1);
        check.due("the tier 2", x.hall(2), 512);
        check.due("the tier 3", x.hall(3), BAD);
        check.due("the tier -1", x.hall(-1), BAD);
    }

    private static void ranked() {
        sentence(20, "Returns a chair by its marks: the most first, of several the one with the "
                + "greater comfort, then the lowest.");
        ChairLeague x = Check.league("h05;h05;h05;m050;s2:0;p1;r0;s1:0;b0=1;c1;r0");
        check.due("the most marks", x.ranked(0), 2);
        check.due("the greater comfort", x.ranked(1), 1);
        check.due("the last", x.ranked(2), 0);
        x = tenAndTen();
        for (int place = 0; place < 10; place++) {
            check.due("the lowest", x.ranked(place), place);
        }
        // 13 and a comfort of 0, 12 and a comfort of 9.
        x = Check.league("h06;h05;m050;m050;s0:0;s1:1;b0=1;c9;p1");
        check.due("one mark more", x.ranked(0), 1);
        check.due("one mark less", x.ranked(1), 0);

        sentence(20, "the place, from 0");
        check.due("the first", x.ranked(0), 1);
        check.due("the last", x.ranked(1), 0);
        check.due("one", Check.league("h05").ranked(0), 0);

        sentence(20, "Returns the chair; NONE if there is no such place.");
        check.due("no chairs", new ChairLeague().ranked(0), NONE);
        check.due("-1", x.ranked(-1), NONE);
        check.due("2 of 2", x.ranked(2), NONE);
        x = tenAndTen();
        check.due("the last of ten", x.ranked(9), 9);
        check.due("10 of 10", x.ranked(10), NONE);
    }

    private static void richest() {
        sentence(21, "Returns a musician by the coins: the most first, of several one who sits "
                + "ahead of one who does not, then the lowest.");
        ChairLeague x = Check.league("h05;m050;m050;m050;s0:2");
        check.due("who sits", x.richest(0), 2);
        check.due("the lowest", x.richest(1), 0);
        check.due("the last", x.richest(2), 1);
        x = Check.league("h05;m050;m050;s0:1;p1;r1;s0:0");
        check.due("the most coins", x.richest(0), 1);
        check.due("who sits", x.richest(1), 0);
        // One coin more: 12 of one who does not sit, and 11.
        x = Check.league("h05;h05;m150;m050;s0:0;s1:1;p1;r1");
        check.due("12", x.richest(0), 1);
        check.due("11", x.richest(1), 0);
        // No coins: 0 has paid all 8, and sits, or does not.
        x = Check.league("h05;h05;m050;m050;a;b0=8;b1=8;c1");
        check.due("8", x.richest(0), 1);
        check.due("0, who sits", x.richest(1), 0);
        x.rise(0);
        check.due("0, who does not", x.richest(1), 0);
        x = tenAndTen();
        Check.run(x, "a;b0=8;b1=8;c1;r0");
        check.due("0, the last of ten", x.richest(9), 0);
        x = tenAndTen();
        for (int place = 0; place < 10; place++) {
            check.due("nobody sits", x.richest(place), place);
        }
        x.season();
        for (int place = 0; place < 10; place++) {
            check.due("all sit", x.richest(place), place);
        }

        sentence(21, "the place, from 0");
        check.due("the first", x.richest(0), 0);
        check.due("the second", x.richest(1), 1);
        check.due("one", Check.league("m050").richest(0), 0);

        sentence(21, "Returns the musician; NONE if there is no such place.");
        check.due("no musicians", new ChairLeague().richest(0), NONE);
        check.due("-1", x.richest(-1), NONE);
        check.due("the last of ten", x.richest(9), 9);
        check.due("10 of 10", x.richest(10), NONE);
        check.due("1 of 1", Check.league("m050").richest(1), NONE);
    }

    private static void append() {
        sentence(22, "the code of the character, 32 to 126");
        ChairLeague x = new ChairLeague();
        check.due("31", x.append(31), BAD);
        check.due("127", x.append(127), BAD);
        check.due("32", x.append(32), 1);
        check.due("126", x.append(126), 2);

        sentence(22, "Returns the length of the text; BAD if the code is out of range; FULL if the "
                + "text has 60 characters.");
        x = new ChairLeague();
        for (int length = 1; length <= 60; length++) {
            check.due("BAD", x.append(127), BAD);
            check.due("the length", x.append('a'), length);
        }
        check.due("a 61st", x.append('a'), FULL);
        check.due("a 61st", x.append(32), FULL);
        check.due("BAD", x.append(127), BAD);
        check.due("the length stays", x.account(12), 60);
        x.run();
        check.due("room again", x.append('a'), 1);
    }

    private static void run() {
        sentence(23, "Reads the text as orders and carries them out, all or none.");
        ChairLeague x = new ChairLeague();
        check.due("all", Check.run(x, "h05;m050;a;p1"), 4);
        check.due("all", x.account(9), 1);
        List<Number> all = Check.allOf(x);
        int changes = x.account(13);
        check.due("none, refused", Check.run(x, "h15;m150;a;p4;r0;r0"), REFUSED);
        check.due("none, refused", all.equals(Check.allOf(x)) ? 1 : 0, 1);
        check.due("none, faulty", Check.run(x, "h15;m150;a;p4;r0;r"), -2018);
        check.due("none, faulty", all.equals(Check.allOf(x)) ? 1 : 0, 1);
        check.due("no changes", x.account(13), changes);

        sentence(23, "Returns how many orders; -2000 minus the fault position if the text is "
                + "wrong; REFUSED for the reason 15.");
        x = new ChairLeague();
        check.due("one", Check.run(x, "a"), 1);
        check.due("thirty", Check.run(x, "a;".repeat(29) + "a"), 30);
        check.due("empty", x.run(), -2000);
        check.due("the first character", Check.run(x, "~"), -2000);
        check.due("the last of 60", Check.run(x, "a;".repeat(29) + "a~"), -2059);
        check.due("too early, 60", Check.run(x, "a;".repeat(30)), -2060);
        check.due("the fault ahead of REFUSED", Check.run(x, "r0;~"), -2003);
        check.reasons("none yet", x);
        check.refused("REFUSED", x, Check.run(x, "r0"), 15, 0);
    }

    private static void tell() {
        sentence(24, "Writes a chair, in place of the line before: its number, \"s\" and its "
                + "section, \"n\" and its need, \"c\" and its cushion, \"^\" for each tier, \"x\" "
                + "if it has fallen, and \":\" and its musician if it has one; as in "
                + "\"3s1n7c2^^:0\".");
        ChairLeague x = Check.league("h05;h05;h05;h17;m160");
        check.line("the shortest", x, x.tell(3), "3s1n7c0");
        Check.run(x, "s3:0;b0=1;c2");
        check.line("a musician", x, x.tell(3), "3s1n7c2:0");
        Check.run(x, "p1;p1;t3;u3;p1;p1;t3");
        check.line("as in the document", x, x.tell(3), "3s1n7c2^^:0");
        x.concert(1);
        check.line("fallen", x, x.tell(3), "3s1n7c2^^x");
        check.line("another, shorter", x, x.tell(0), "0s0n5c0");
        check.line("the last of ten", tenAndTen(), y -> y.tell(9), "9s0n5c0");

        sentence(24, "Returns the length of the line; NONE if there is no such chair.");
        check.due("7", x.tell(0), 7);
        check.due("10", x.tell(3), 10);
        check.due("chair 4", x.tell(4), NONE);
        check.due("chair -1", x.tell(-1), NONE);
        check.dueText("the line stays", Check.lineOf(x), "3s1n7c2^^x");
        check.due("no chairs", new ChairLeague().tell(0), NONE);
    }

    private static void tellMusicians() {
        sentence(25, "Writes the musicians, in place of the line before: for each the chair, or "
                + "\".\" for one who does not sit, \"$\" and the coins, and \"!\" and the bid if it "
                + "is above 0, with a blank between two; as in \"2$8 .$0 0$12!3\".");
        ChairLeague x = new ChairLeague();
        check.line("nobody", x, x.tellMusicians(), "");
        Check.run(x, "h15;h15;h05;m050;m150;m160;s2:0;s0:1;s1:2");
        check.line("all sit", x, x.tellMusicians(), "2$8 0$8 1$8");
        Check.run(x, "b1=8;b2=8;c1;r1");
        check.line("no coins", x, x.tellMusicians(), "2$8 .$0 1$8");
        Check.run(x, "r0;r2;s0:2;p1;b2=3;s2:0");
        check.line("as in the document", x, x.tellMusicians(), "2$8 .$0 0$12!3");
        Check.run(x, "b2=1;b0=0");
        check.line("a bid of 1, and of 0", x, x.tellMusicians(), "2$8 .$0 0$12!1");
        x.tell(0);
        check.line("one", Check.league("m050"), y -> y.tellMusicians(), ".$8");
        numbersTold();

        sentence(25, "Returns the length of the line.");
        check.due("nobody", new ChairLeague().tellMusicians(), 0);
        check.due("one", Check.league("m050").tellMusicians(), 3);
        x = tenAndTen();
        check.due("ten", x.tellMusicians(), 39);
        x.season();
        concerts(x, 1, 23);
        for (int k = 0; k < 10; k++) {
            x.bid(k, 99);
        }
        check.due("the longest", x.tellMusicians(), 79);
        check.due("its last", x.character(78), '9');
        check.due("behind it", x.character(79), NONE);
    }

    /** Coins and bids of one digit and of two, with each number that a line can have. */
    private static void numbersTold() {
        for (int step = 2; step <= 4; step++) {
            String[] leagues = {"h05;m180;a", "h05;m080;a", "h05;m050;a"};
            ChairLeague x = Check.league(leagues[step - 2]);
            for (int coins = 8; coins < 99; coins = Math.min(coins + step, 99)) {
                check.line("coins", x, x.tellMusicians(), "0$" + coins);
                x.concert(1);
            }
            check.line("coins", x, x.tellMusicians(), "0$99");
        }
        ChairLeague x = Check.league("h05;m050;a");
        concerts(x, 1, 23);
        for (int bid = 1; bid < 100; bid++) {
            x.bid(0, bid);
            x.tellMusicians();
            int length = bid > 9 ? 7 : 6;
            check.due("the tens of " + bid, length == 7 ? x.character(5) - '0' : 0, bid / 10);
            check.due("the ones of " + bid, x.character(length - 1) - '0', bid % 10);
        }
    }

    private static void character() {
        sentence(26, "Returns a character of the line, which is empty at first.");
        ChairLeague x = Check.league("h37");
        check.due("at first", x.character(0), NONE);
        x.tell(0);
        String line = "0s3n7c0";
        for (int index = 0; index < line.length(); index++) {
            check.due("character " + index, x.character(index), line.charAt(index));
        }

        sentence(26, "the index, from 0");
        check.due("the first", x.character(0), '0');
        check.due("the second", x.character(1), 's');

        sentence(26, "Returns the code of the character; NONE if there is none.");
        check.due("the first", x.character(0), '0');
        check.due("the last", x.character(6), '0');
        check.due("behind the last", x.character(7), NONE);
        check.due("-1", x.character(-1), NONE);
        // A line that was longer leaves nothing behind a shorter one.
        x.tellMusicians();
        check.due("empty", x.character(0), NONE);
        Check.run(x, "m050");
        x.tell(0);
        x.tellMusicians();
        check.due("the last", x.character(2), '8');
        check.due("of the line before", x.character(3), NONE);
    }

    private static void reason() {
        sentence(27, "Returns the latest reason, or one that stands behind it, or a detail.");
        ChairLeague y = Check.league("h05;m051;m190");
        check.refused("the first", y, y.rise(0), 8, 0);
        check.refused("a later one", y, y.seat(0, 1), 2, 1, 6, 5);
        check.refused("a later one", y, Check.run(y, "a;s0:0"), 15, 1, 2, 0, 7, 0);
        check.refused("a later one", y, y.promote(0), 14, 20);
        check.due("a success", y.season(), 0);
        check.reasons("is still the latest", y, 14, 20);

        sentence(27, "0 for the reason, 1 for the one behind it, 2 for the one behind that");
        ChairLeague x = Check.league("h05;m051");
        check.due("run", Check.run(x, "s0:0"), REFUSED);
        check.due("0", x.reason(0, false), 15);
        check.due("1", x.reason(1, false), 2);
        check.due("2", x.reason(2, false), 7);
        check.due("the detail of 0", x.reason(0, true), 0);
        check.due("the detail of 1", x.reason(1, true), 0);
        check.due("the detail of 2", x.reason(2, true), 0);
        check.due("run", Check.run(x, "a;m190;s0:1"), REFUSED);
        check.due("the detail of 0", x.reason(0, true), 2);
        check.due("the detail of 1", x.reason(1, true), 1);
        check.due("the detail of 2", x.reason(2, true), 5);

        sentence(27, "Returns the number; BAD if the depth is not from 0 to 2; NOTHING if nothing "
                + "was refused, or none stands there.");
        check.due("-1", x.reason(-1, false), BAD);
        check.due("3", x.reason(3, true), BAD);
        x.rise(0);
        check.due("0", x.reason(0, false), 8);
        check.due("none stands at 1", x.reason(1, false), NOTHING);
        check.due("none stands at 2", x.reason(2, true), NOTHING);
        x.seat(0, 0);
        check.due("1", x.reason(1, false), 7);
        check.due("none stands at 2", x.reason(2, false), NOTHING);
        x = Check.league("h05;m051");
        x.chair(4, 5);
        x.rise(1);
        for (int depth = 0; depth < 3; depth++) {
            check.due("nothing was refused", x.reason(depth, false), NOTHING);
            check.due("nothing was refused", x.reason(depth, true), NOTHING);
        }
        check.due("-1", x.reason(-1, false), BAD);
        check.due("3", x.reason(3, false), BAD);
    }

    private static void dueAccounts(String call, ChairLeague x, int... due) {
        for (int what = 0; what < 14; what++) {
            check.due(call + ": account(" + what + ")", x.account(what), due[what]);
        }
    }

    private static void account() {
        sentence(28, "0 for the chairs, 1 for the musicians, 2 for those who sit, 3 for the chairs "
                + "that have fallen, 4 for the coins of all musicians, 5 for the coins of the "
                + "league, 6 for the coins that halls paid so far, 7 for the coins spent on stands "
                + "so far, 8 for the coins that were lost so far, 9 for the concerts so far, 10 for "
                + "the seasons so far, 11 for the cushions sold so far, 12 for the characters of the"
                + " text, 13 for the changes that can be undone");
        ChairLeague x = new ChairLeague();
        dueAccounts("empty", x, 0, 0, 0, 0, 0, 10, 0, 0, 0, 0, 0, 0, 0, 0);
        x = tenAndTen();
        dueAccounts("full", x, 10, 10, 0, 0, 80, 10, 0, 0, 0, 0, 0, 0, 0, 2);
        x.season();
        Check.run(x, "b0=8;b1=8;c1");
        dueAccounts("a sale", x, 10, 10, 10, 0, 72, 18, 0, 0, 0, 0, 1, 1, 0, 4);
        concerts(x, 4, 2);
        x.raise(0);
        x.raise(9);
        x.append('~');
        dueAccounts("concerts", x, 10, 10, 10, 0, 152, 14, 80, 4, 0, 2, 1, 1, 1, 8);
        x.concert(4);
        dueAccounts("eight fall", x, 10, 10, 2, 8, 192, 14, 120, 4, 0, 3, 1, 1, 1, 8);
        concerts(x, 1, 20);
        dueAccounts("19 and 20 fours", x, 10, 10, 2, 8, 352 - 1, 14, 280, 4, 1, 23, 1, 1, 1, 8);
        x.run();
        x.save();
        x.restore();
        dueAccounts("restored", x, 10, 10, 2, 8, 351, 14, 280, 4, 1, 23, 1, 1, 0, 0);

        sentence(28, "Returns the account; BAD if what is not from 0 to 13.");
        check.due("-1", x.account(-1), BAD);
        check.due("14", x.account(14), BAD);
        check.due("0", x.account(0), 10);
        check.due("13", x.account(13), 0);
    }

    private static void isBalanced() {
        sentence(29, "Returns whether 10 coins, 8 for each musician and those that halls paid are "
                + "those of the league and of musicians, spent on stands and lost, each musician "
                + "who sits is that of the chair, and whom all chairs would have is the same by "
                + "both ways.");
        // Spent to the last, paid, lost, fallen, undone and restored: all are accounted for.
        ChairLeague x = Check.league("h05;h15;h05;m040;m150;m051;a;b0=8;b1=8;c1");
        for (int k = 0; k < 40; k++) {
            x.concert(1 + k % 4);
            x.raise(k % 2);
            x.season();
            check.due("isBalanced", x.isBalanced(), 1);
            check.due("sum", 10 + 8 * 3 + x.account(6),
                    x.account(4) + x.account(5) + x.account(7) + x.account(8));
        }
        check.due("all was spent", x.account(5), 0);
        check.due("some was lost", x.account(8) > 0 ? 1 : 0, 1);

        sentence(29, "Returns 1 if it is so, 0 otherwise.");
        check.due("empty", new ChairLeague().isBalanced(), 1);
        check.due("no chairs", Check.league("m050").isBalanced(), 1);
        check.due("no musicians", Check.league("h05").isBalanced(), 1);
        check.due("full", tenAndTen().isBalanced(), 1);
        x.undo();
        check.due("undone", x.isBalanced(), 1);
        x.save();
        Check.run(x, "m050;a");
        x.restore();
        check.due("restored", x.isBalanced(), 1);
    }

    private static void meanFit() {
        sentence(30, "Returns the mean fit of those who sit for their chairs: the sum divided by "
                + "their number, both converted to double.");
        ChairLeague x = Check.league("h05;h15;h25;m050;m150;m270;s0:0;s1:1");
        check.dueDouble("13", x.meanFit(), 13.0);
        x.seat(2, 2);
        check.dueDouble("13, 13 and 11", x.meanFit(), 37.0 / 3.0);
        x = tenAndTen();
        x.season();
        check.dueDouble("ten", x.meanFit(), 13.0);

        sentence(30, "Returns the mean; 0.0 if nobody sits.");
        check.dueDouble("nobody there", new ChairLeague().meanFit(), 0.0);
        check.dueDouble("nobody sits", tenAndTen().meanFit(), 0.0);
        x = Check.league("h05;m050;a");
        check.dueDouble("one sits", x.meanFit(), 13.0);
        x.rise(0);
        check.dueDouble("nobody sits", x.meanFit(), 0.0);
        check.dueDouble("the least", Check.league("h05;m180;a").meanFit(), 6.0);
    }

    private static void fallenShare() {
        sentence(31, "Returns the share of the chairs that have fallen, both numbers converted to "
                + "float.");
        ChairLeague x = Check.league("h09;h05;h05;m080;s0:0");
        check.dueDouble("none", x.fallenShare(), 0.0f);
        x.concert(2);
        check.dueDouble("a stand of 1", x.fallenShare(), 0.0f);
        x.concert(1);
        check.dueDouble("one of three", x.fallenShare(), 1.0f / 3.0f);
        check.dueDouble("one of one", Check.league("h09;m080;a;p4").fallenShare(), 1.0f);
        x = tenAndTen();
        x.season();
        concerts(x, 4, 3);
        check.dueDouble("ten of ten", x.fallenShare(), 1.0f);
        x.raise(4);
        check.dueDouble("nine of ten", x.fallenShare(), 9.0f / 10.0f);

        sentence(31, "Returns the share; 0.0f without chairs.");
        check.dueDouble("nothing there", new ChairLeague().fallenShare(), 0.0f);
        check.dueDouble("musicians alone", Check.league("m050").fallenShare(), 0.0f);
    }

    private static void undo() {
        sentence(32, "Undoes the latest change.");
        ChairLeague y = Check.league("h05;m050", "a", "p1");
        y.bid(0, 13);
        y.lasts(1);
        check.due("the concert", y.undo(), 2);
        check.due("the concert", y.account(9), 0);
        check.due("the season stays", y.account(10), 1);
        y.rise(0);
        check.due("the rise", y.undo(), 2);
        check.due("the rise", y.musicianOf(0, 5), 0);
        check.due("the season", y.undo(), 1);
        check.due("the season", y.musicianOf(0, 5), NOTHING);

        sentence(32, "Returns the number of changes that can still be undone; NOTHING if there is "
                + "none.");
        ChairLeague x = new ChairLeague();
        check.due("none at first", x.undo(), NOTHING);
        x.chair(0, 5);
        check.due("one", x.undo(), 0);
        check.due("none again", x.undo(), NOTHING);
        check.due("chairs", x.account(0), 0);
        for (int k = 0; k < 10; k++) {
            x.chair(0, 5);
        }
        for (int left = 7; left >= 0; left--) {
            check.due("undo", x.undo(), left);
            check.due("chairs", x.account(0), left + 2);
        }
        check.due("none more than 8", x.undo(), NOTHING);
        check.due("chairs", x.account(0), 2);
        x.save();
        x.chair(0, 5);
        x.restore();
        check.due("none behind restore", x.undo(), NOTHING);
        check.due("an undo is no change", Check.league("h05", "h05").undo(), 1);
    }

    private static void save() {
        sentence(33, "Saves all that changes can change, in place of an earlier snapshot.");
        ChairLeague x = Check.league("h05;h14;m050;m140;a;b0=5;b1=3;c2;b1=1;p4;p1;p1;u1;t0");
        List<Number> all = Check.allOf(x);
        x.save();
        check.due("run", Check.run(x, "b0=1;c7;p4;u1;t1;h22;m331;a;p1;r1"), 10);
        check.due("all is another", all.equals(Check.allOf(x)) ? 1 : 0, 0);
        x.restore();
        check.due("all as it was", all.equals(Check.allOf(x)) ? 1 : 0, 1);
        Check.run(x, "h33");
        List<Number> later = Check.allOf(x);
        x.save();
        Check.run(x, "a;p1;h11");
        x.restore();
        check.due("as saved later", later.equals(Check.allOf(x)) ? 1 : 0, 1);
        x = Check.league("h37;m370;a");
        concerts(x, 1, 24);
        check.due("lost", x.account(8), 5);
        all = Check.allOf(x);
        x.save();
        concerts(x, 1, 2);
        check.due("lost", x.account(8), 13);
        x.restore();
        check.due("all as it was", all.equals(Check.allOf(x)) ? 1 : 0, 1);
        // Others come in the place of those who were saved.
        x = Check.league("h37", "m268");
        all = Check.allOf(x);
        x.save();
        x.undo();
        x.undo();
        Check.run(x, "h01;m010");
        x.restore();
        check.due("all as it was", all.equals(Check.allOf(x)) ? 1 : 0, 1);

        sentence(33, "Returns the chairs.");
        check.due("none", new ChairLeague().save(), 0);
        check.due("musicians alone", Check.league("m050").save(), 0);
        check.due("one", Check.league("h05;m050;m050").save(), 1);
        check.due("ten", tenAndTen().save(), 10);
    }

    private static void restore() {
        sentence(34, "Restores the snapshot, which stays.");
        ChairLeague x = Check.league("h05;m040;a;p1");
        List<Number> all = Check.allOf(x);
        x.save();
        for (int k = 0; k < 3; k++) {
            Check.run(x, "h15;p1;p1");
            x.undo();
            x.concert(3);
            check.due("restore", x.restore(), 1);
            check.due("all as it was", all.equals(Check.allOf(x)) ? 1 : 0, 1);
        }

        sentence(34, "Nothing can be undone then.");
        x = Check.league("h05", "h05", "h05");
        x.save();
        check.due("save leaves 3", x.account(13), 3);
        x.restore();
        check.due("changes", x.account(13), 0);
        check.due("undo", x.undo(), NOTHING);
        check.due("chairs", x.account(0), 3);
        x.season();
        check.due("a new one can", x.undo(), 0);
        check.due("and no other", x.undo(), NOTHING);

        sentence(34, "Returns the chairs; NOTHING if there is no snapshot.");
        x = Check.league("h05");
        check.due("none", x.restore(), NOTHING);
        check.due("it leaves the changes", x.account(13), 1);
        check.due("it leaves the chairs", x.account(0), 1);
        x.save();
        x.chair(0, 5);
        check.due("one chair", x.restore(), 1);
        x = new ChairLeague();
        check.due("none", x.restore(), NOTHING);
        x.save();
        x.chair(0, 5);
        check.due("a snapshot without chairs", x.restore(), 0);
        check.due("no chairs", x.account(0), 0);
    }
}
