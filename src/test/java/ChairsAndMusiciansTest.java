/** Promises 1 to 6. */
public final class ChairsAndMusiciansTest {
    private static final int NONE = ChairLeague.NONE;
    private static final int BAD = ChairLeague.BAD;
    private static final int NOTHING = ChairLeague.NOTHING;
    private static final int[] FAR = {Integer.MIN_VALUE, -1011, -2, -1, 10, 11, 32, 1 << 20,
        Integer.MAX_VALUE};
    private static final Check check = new Check("ChairsAndMusiciansTest");

    public static void main(String[] args) {
        constants();
        newObject();
        chair();
        musician();
        chairOf();
        musicianOf();
        fit();
        check.finish();
    }

    private static void constants() {
        check.part("the constants");
        check.due("NONE", NONE, -1011);
        check.due("BAD", BAD, -1012);
        check.due("FULL", ChairLeague.FULL, -1013);
        check.due("REFUSED", ChairLeague.REFUSED, -1014);
        check.due("NOTHING", NOTHING, -1015);
    }

    private static void newObject() {
        check.part("promise 1");
        ChairLeague x = new ChairLeague();
        for (int what = 0; what < 14; what++) {
            check.due("account " + what, x.account(what), what == 5 ? 10 : 0);
        }
        check.due("chairOf", x.chairOf(0, 0), NONE);
        check.due("musicianOf", x.musicianOf(0, 0), NONE);
        check.due("fit", x.fit(0, 0), NONE);
        check.due("would", x.would(0), NONE);
        check.due("wouldAgain", x.wouldAgain(0), NONE);
        check.due("restless", x.restless(), 0);
        check.due("lasts", x.lasts(1), NOTHING);
        check.due("hall", x.hall(0), 0);
        check.due("ranked", x.ranked(0), NONE);
        check.due("richest", x.richest(0), NONE);
        check.due("character", x.character(0), NONE);
        check.due("reason", x.reason(0, false), NOTHING);
        check.due("isBalanced", x.isBalanced(), 1);
        check.dueDouble("meanFit", x.meanFit(), 0.0);
        check.dueDouble("fallenShare", x.fallenShare(), 0.0);
        check.due("undo", x.undo(), NOTHING);
        check.due("restore", x.restore(), NOTHING);
        check.line("tellMusicians", x, x.tellMusicians(), "");
        check.due("save", x.save(), 0);
        // One league knows nothing of another.
        Check.league("h05;m050;a");
        check.due("account 0", x.account(0), 0);
        check.due("season", x.season(), 0);
    }

    private static void chair() {
        check.part("promise 2");
        ChairLeague x = new ChairLeague();
        check.due("section -1", x.chair(-1, 5), BAD);
        check.due("section 4", x.chair(4, 5), BAD);
        check.due("need 0", x.chair(0, 0), BAD);
        check.due("need 10", x.chair(0, 10), BAD);
        for (int far : FAR) {
            check.due("section " + far, x.chair(far, 5), BAD);
            check.due("need " + far, x.chair(0, far), BAD);
        }
        check.due("chairs", x.account(0), 0);
        check.due("changes", x.account(13), 0);
        check.reasons("BAD", x);
        for (int k = 0; k < 10; k++) {
            check.due("chair " + k, x.chair(k % 4, k == 0 ? 1 : k), k);
            check.due("chairs", x.account(0), k + 1);
            check.due("section of " + k, x.chairOf(k, 0), k % 4);
            check.due("need of " + k, x.chairOf(k, 1), k == 0 ? 1 : k);
        }
        check.due("changes", x.account(13), 8);
        check.due("BAD ahead of REFUSED", x.chair(4, 5), BAD);
        check.due("BAD ahead of REFUSED", x.chair(0, 0), BAD);
        check.reasons("BAD", x);
        check.refused("an eleventh", x, x.chair(0, 5), 1, 10);
        check.due("chairs", x.account(0), 10);
        check.due("BAD", x.chair(0, 10), BAD);
        check.reasons("kept", x, 1, 10);
        check.due("musician", x.musician(0, 5, 0), 0);
        check.reasons("kept", x, 1, 10);
    }

    private static void musician() {
        check.part("promise 3");
        ChairLeague x = new ChairLeague();
        check.due("section -1", x.musician(-1, 5, 5), BAD);
        check.due("section 4", x.musician(4, 5, 5), BAD);
        check.due("skill 0", x.musician(0, 0, 5), BAD);
        check.due("skill 10", x.musician(0, 10, 5), BAD);
        check.due("demand -1", x.musician(0, 5, -1), BAD);
        check.due("demand 10", x.musician(0, 5, 10), BAD);
        for (int far : FAR) {
            check.due("section " + far, x.musician(far, 5, 5), BAD);
            check.due("skill " + far, x.musician(0, far, 5), BAD);
            check.due("demand " + far, x.musician(0, 5, far), BAD);
        }
        check.due("musicians", x.account(1), 0);
        check.due("changes", x.account(13), 0);
        check.reasons("BAD", x);
        for (int k = 0; k < 10; k++) {
            check.due("musician " + k, x.musician(k % 4, k == 0 ? 1 : k, 9 - k), k);
            check.due("musicians", x.account(1), k + 1);
            check.due("coins of all", x.account(4), 8 * (k + 1));
            check.due("section of " + k, x.musicianOf(k, 0), k % 4);
            check.due("skill of " + k, x.musicianOf(k, 1), k == 0 ? 1 : k);
            check.due("demand of " + k, x.musicianOf(k, 2), 9 - k);
        }
        check.due("BAD ahead of REFUSED", x.musician(4, 5, 5), BAD);
        check.due("BAD ahead of REFUSED", x.musician(0, 0, 5), BAD);
        check.due("BAD ahead of REFUSED", x.musician(0, 5, 10), BAD);
        check.reasons("BAD", x);
        check.refused("an eleventh", x, x.musician(0, 5, 0), 1, 10);
        check.due("musicians", x.account(1), 10);
        check.due("chair", x.chair(0, 5), 0);
    }

    private static void dueChair(ChairLeague x, int chair, int... numbers) {
        for (int what = 0; what < 8; what++) {
            check.due("chairOf(" + chair + ", " + what + ")", x.chairOf(chair, what),
                    numbers[what]);
        }
    }

    private static void chairOf() {
        check.part("promise 4");
        ChairLeague x = new ChairLeague();
        x.chair(3, 7);
        dueChair(x, 0, 3, 7, 0, 3, 0, 0, 0, NOTHING);
        x.musician(3, 6, 0);
        x.seat(0, 0);
        dueChair(x, 0, 3, 7, 0, 3, 0, 0, 0, 0);
        x.bid(0, 1);
        x.sell(9);
        dueChair(x, 0, 3, 7, 9, 3, 0, 9, 0, 0);
        x.concert(2);
        dueChair(x, 0, 3, 7, 9, 1, 0, 9, 12, 0);
        x.concert(1);
        dueChair(x, 0, 3, 7, 9, 0, 0, 9, 24, NOTHING);
        x.promote(0);
        dueChair(x, 0, 3, 7, 9, 0, 1, 12, 24, NOTHING);
        check.due("what -1", x.chairOf(0, -1), BAD);
        check.due("what 8", x.chairOf(0, 8), BAD);
        check.due("chair -1", x.chairOf(-1, 0), NONE);
        check.due("chair 1", x.chairOf(1, 0), NONE);
        check.due("NONE ahead of BAD", x.chairOf(1, 8), NONE);
        for (int far : FAR) {
            check.due("chair " + far, x.chairOf(far, 2), NONE);
            check.due("what " + far, x.chairOf(0, far), BAD);
            check.due("both " + far, x.chairOf(far, far), NONE);
        }
    }

    private static void dueMusician(ChairLeague x, int musician, int... numbers) {
        for (int what = 0; what < 7; what++) {
            check.due("musicianOf(" + musician + ", " + what + ")", x.musicianOf(musician, what),
                    numbers[what]);
        }
    }

    private static void musicianOf() {
        check.part("promise 5");
        ChairLeague x = new ChairLeague();
        x.chair(1, 1);
        x.chair(2, 6);
        x.musician(2, 5, 0);
        dueMusician(x, 0, 2, 5, 0, 8, 0, NOTHING, 0);
        x.seat(1, 0);
        dueMusician(x, 0, 2, 5, 0, 8, 0, 1, 0);
        x.bid(0, 7);
        dueMusician(x, 0, 2, 5, 0, 8, 7, 1, 0);
        x.concert(1);
        dueMusician(x, 0, 2, 5, 0, 12, 7, 1, 1);
        // Who rises from a chair that falls has played, too.
        x.concert(2);
        dueMusician(x, 0, 2, 5, 0, 16, 0, NOTHING, 2);
        x.musician(0, 1, 9);
        dueMusician(x, 1, 0, 1, 9, 8, 0, NOTHING, 0);
        check.due("what -1", x.musicianOf(0, -1), BAD);
        check.due("what 7", x.musicianOf(0, 7), BAD);
        check.due("musician -1", x.musicianOf(-1, 0), NONE);
        check.due("musician 2", x.musicianOf(2, 0), NONE);
        check.due("NONE ahead of BAD", x.musicianOf(2, 7), NONE);
        for (int far : FAR) {
            check.due("musician " + far, x.musicianOf(far, 2), NONE);
            check.due("what " + far, x.musicianOf(0, far), BAD);
            check.due("both " + far, x.musicianOf(far, far), NONE);
        }
    }

    private static void fit() {
        check.part("promise 6");
        ChairLeague x = new ChairLeague();
        x.chair(0, 5);
        x.chair(1, 1);
        x.musician(0, 5, 9);
        x.musician(0, 9, 0);
        x.musician(1, 9, 0);
        check.due("the same, own section", x.fit(0, 0), 13);
        check.due("4 above, own section", x.fit(0, 1), 9);
        check.due("4 above", x.fit(0, 2), 5);
        check.due("4 above, other way round", x.fit(1, 0), 5);
        check.due("8 above", x.fit(1, 1), 1);
        check.due("8 above, own section", x.fit(1, 2), 5);
        check.due("chair 2", x.fit(2, 0), NONE);
        check.due("chair -1", x.fit(-1, 0), NONE);
        check.due("musician 3", x.fit(0, 3), NONE);
        check.due("musician -1", x.fit(0, -1), NONE);
        for (int far : FAR) {
            check.due("chair " + far, x.fit(far, 0), NONE);
            check.due("musician " + far, x.fit(0, far), NONE);
            check.due("both " + far, x.fit(far, far), NONE);
        }
        allFits();
    }

    private static void allFits() {
        for (int skill = 1; skill < 10; skill++) {
            ChairLeague x = new ChairLeague();
            for (int need = 1; need < 10; need++) {
                x.chair(2, need);
            }
            x.musician(2, skill, 0);
            x.musician(3, skill, 0);
            for (int need = 1; need < 10; need++) {
                int apart = Math.abs(need - skill);
                check.due("own, " + need + ", " + skill, x.fit(need - 1, 0), 13 - apart);
                check.due("other, " + need + ", " + skill, x.fit(need - 1, 1), 9 - apart);
            }
        }
    }
}
