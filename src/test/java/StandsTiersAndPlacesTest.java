/** Promises 17 to 21. */
public final class StandsTiersAndPlacesTest {
    private static final int NONE = ChairLeague.NONE;
    private static final int BAD = ChairLeague.BAD;
    private static final int[] FAR = {Integer.MIN_VALUE, -1011, -2, -1, 10, 31, 32, 1 << 20,
        Integer.MAX_VALUE};
    private static final Check check = new Check("StandsTiersAndPlacesTest");

    public static void main(String[] args) {
        raise();
        raiseCoins();
        promote();
        promoteEdges();
        hall();
        ranked();
        richest();
        check.finish();
    }

    private static void raise() {
        check.part("promise 17");
        ChairLeague x = Check.league("h05;h15;m040;m150;a;b0=3");
        check.due("chair 2", x.raise(2), NONE);
        for (int far : FAR) {
            check.due("chair " + far, x.raise(far), NONE);
        }
        check.reasons("NONE", x);
        check.refused("is up", x, x.raise(0), 12, 3);
        check.due("league", x.account(5), 10);
        // One that has not fallen.
        x.concert(2);
        check.due("stand", x.chairOf(0, 3), 1);
        check.due("raise", x.raise(0), 8);
        check.due("stand", x.chairOf(0, 3), 3);
        check.due("sits on", x.chairOf(0, 7), 0);
        check.due("bids on", x.musicianOf(0, 4), 3);
        check.due("league", x.account(5), 8);
        check.due("spent", x.account(7), 2);
        x.concert(1);
        check.due("raise", x.raise(0), 6);
        check.due("stand", x.chairOf(0, 3), 3);
        // One that has fallen: nobody sits there then.
        x.concert(3);
        check.due("raise", x.raise(0), 4);
        check.due("stand", x.chairOf(0, 3), 3);
        check.due("empty", x.chairOf(0, 7), ChairLeague.NOTHING);
        check.due("marks stay", x.chairOf(0, 6), 36);
        check.due("fallen", x.account(3), 0);
        check.due("spent", x.account(7), 6);
        check.due("isBalanced", x.isBalanced(), 1);
        check.refused("is up", x, x.raise(1), 12, 3);
    }

    private static void raiseCoins() {
        check.part("promise 17, coins");
        ChairLeague x = Check.league("h05;h15;m040;m150;a;b0=3;b1=1;c1");
        check.due("league", x.account(5), 11);
        for (int left = 9; left > 0; left -= 2) {
            x.concert(1);
            check.due("raise", x.raise(0), left);
        }
        check.refused("is up, ahead of too few", x, x.raise(0), 12, 3);
        x.concert(1);
        check.refused("1 coin", x, x.raise(0), 9, 1);
        check.due("stand", x.chairOf(0, 3), 2);
        check.due("spent", x.account(7), 10);
        // The last 2 coins do.
        x = Check.league("h05;m040;a;p1;u0;p1;u0;p1;u0;p1;u0;p1");
        check.due("league", x.account(5), 2);
        check.due("raise", x.raise(0), 0);
        x.concert(1);
        check.refused("0 coins", x, x.raise(0), 9, 0);
        check.due("isBalanced", x.isBalanced(), 1);
    }

    private static void promote() {
        check.part("promise 18");
        ChairLeague x = Check.league("h05;h15;m020;a");
        check.due("fit", x.fit(0, 0), 10);
        check.due("chair 2", x.promote(2), NONE);
        for (int far : FAR) {
            check.due("chair " + far, x.promote(far), NONE);
        }
        check.reasons("NONE", x);
        check.refused("no marks", x, x.promote(0), 14, 20);
        x.concert(1);
        check.refused("10 marks", x, x.promote(0), 14, 10);
        x.concert(1);
        check.due("20 marks", x.promote(0), 1);
        check.due("tier", x.chairOf(0, 4), 1);
        check.due("comfort", x.chairOf(0, 5), 3);
        check.due("marks stay", x.chairOf(0, 6), 20);
        check.refused("20 are lacking", x, x.promote(0), 14, 20);
        check.refused("another", x, x.promote(1), 14, 20);
        x.raise(0);
        x.concert(1);
        check.refused("10 are lacking", x, x.promote(0), 14, 10);
        x.concert(1);
        check.due("40 marks", x.promote(0), 2);
        check.due("comfort", x.chairOf(0, 5), 6);
        check.refused("tier 2", x, x.promote(0), 13, 40);
        x.raise(0);
        x.concert(1);
        x.concert(1);
        check.refused("tier 2 with 60 marks", x, x.promote(0), 13, 60);
        check.due("tier", x.chairOf(0, 4), 2);
        check.due("tier", x.chairOf(1, 4), 0);
    }

    private static void promoteEdges() {
        check.part("promise 18, edges");
        // 13 and 6 are 19 marks.
        ChairLeague x = Check.league("h05;m050;m180;s0:0;p1;r0;s0:1;p1");
        check.due("marks", x.chairOf(0, 6), 19);
        check.refused("19 marks", x, x.promote(0), 14, 1);
        check.due("tier", x.chairOf(0, 4), 0);
        // 39 marks: 1 is lacking for the tier 2.
        x = Check.league("h05;m050;a;p1;p1;p1;t0");
        check.refused("39 marks", x, x.promote(0), 14, 1);
        // Two tiers one after the other, with marks for both.
        x.concert(1);
        check.due("52 marks", x.promote(0), 2);
        // A fallen chair comes into the next tier, too, with its cushion.
        x = Check.league("h05;m040;a;b0=1;c4;p1;p2");
        check.due("stand", x.chairOf(0, 3), 0);
        check.due("24 marks", x.promote(0), 1);
        check.due("comfort", x.chairOf(0, 5), 7);
        check.due("stand", x.chairOf(0, 3), 0);
    }

    private static void hall() {
        check.part("promise 19");
        ChairLeague x = new ChairLeague();
        check.due("tier 0", x.hall(0), 0);
        for (int k = 0; k < 10; k++) {
            x.chair(0, 5);
        }
        check.due("tier 0", x.hall(0), 1023);
        check.due("tier 1", x.hall(1), 0);
        check.due("tier 2", x.hall(2), 0);
        x.musician(0, 5, 0);
        x.musician(0, 5, 0);
        x.seat(9, 0);
        x.seat(3, 1);
        for (int k = 0; k < 4; k++) {
            x.concert(1);
        }
        x.promote(9);
        x.promote(3);
        check.due("tier 0", x.hall(0), 1023 - 512 - 8);
        check.due("tier 1", x.hall(1), 512 + 8);
        check.due("tier 2", x.hall(2), 0);
        x.promote(9);
        check.due("tier 0", x.hall(0), 1023 - 512 - 8);
        check.due("tier 1", x.hall(1), 8);
        check.due("tier 2", x.hall(2), 512);
        check.due("tier 3", x.hall(3), BAD);
        check.due("tier -1", x.hall(-1), BAD);
        for (int far : FAR) {
            check.due("tier " + far, x.hall(far), BAD);
        }
        // A fallen one is in its hall as well.
        check.due("fallen", Check.league("h05;m040;a;p3").hall(0), 1);
    }

    private static void dueRanked(ChairLeague x, String order) {
        for (int place = 0; place < order.length(); place++) {
            check.due("ranked(" + place + ")", x.ranked(place), order.charAt(place) - '0');
        }
        check.due("ranked behind the last", x.ranked(order.length()), NONE);
        check.due("ranked -1", x.ranked(-1), NONE);
        for (int far : FAR) {
            check.due("ranked " + far, x.ranked(far), NONE);
        }
    }

    private static void ranked() {
        check.part("promise 20");
        ChairLeague x = new ChairLeague();
        dueRanked(x, "");
        Check.run(x, "h05;h05;h05;h05");
        dueRanked(x, "0123");
        // Of equal marks the one with the greater comfort: cushions of 1 and 2.
        Check.run(x, "m050;s2:0;b0=1;c1;r0;s3:0;b0=1;c2;r0");
        dueRanked(x, "3201");
        // The most marks first: 13 for 1, 13 for 2, none for 3.
        Check.run(x, "s1:0;p1;r0;s2:0;p1;r0");
        dueRanked(x, "2130");
        // A tier weighs 3: chair 1 has 26 marks as chair 2 has, a tier and no cushion.
        Check.run(x, "s1:0;p1;r0;s2:0;p1;r0");
        dueRanked(x, "2130");
        x.promote(1);
        dueRanked(x, "1230");
        // More marks go ahead of comfort.
        Check.run(x, "s0:0;p1;p1;p1;r0");
        dueRanked(x, "0123");
        // One mark more goes ahead of comfort, too: 13 for chair 0, 12 and a cushion for chair 1.
        dueRanked(Check.league("h05;h16;m050;m150;a;b1=1;c9;p1"), "01");
        dueRanked(Check.league("h06;h15;m050;m150;a;b0=1;c9;p1"), "10");
        ChairLeague all = Check.league("h05;h05;h05;h05;h05;h05;h05;h05;h05;h05;m050;s9:0;p1");
        dueRanked(all, "9012345678");
    }

    private static void dueRichest(ChairLeague x, String order) {
        for (int place = 0; place < order.length(); place++) {
            check.due("richest(" + place + ")", x.richest(place), order.charAt(place) - '0');
        }
        check.due("richest behind the last", x.richest(order.length()), NONE);
        check.due("richest -1", x.richest(-1), NONE);
        for (int far : FAR) {
            check.due("richest " + far, x.richest(far), NONE);
        }
    }

    private static void richest() {
        check.part("promise 21");
        ChairLeague x = new ChairLeague();
        dueRichest(x, "");
        Check.run(x, "m050;m150;m250;m350");
        dueRichest(x, "0123");
        // Of equal coins those who sit first.
        Check.run(x, "h25;h35;h05;s0:2");
        dueRichest(x, "2013");
        Check.run(x, "s1:3");
        dueRichest(x, "2301");
        // The most coins first, then those who sit: 2 plays, and rises.
        Check.run(x, "r3;p1;r2;s2:0");
        dueRichest(x, "2013");
        Check.run(x, "p1;s0:2");
        dueRichest(x, "0213");
        x.rise(2);
        dueRichest(x, "0213");
        // Who pays falls behind: 0 buys for 1.
        Check.run(x, "s0:2;b0=2;b2=1;c1");
        dueRichest(x, "2013");
        ChairLeague all = Check.league("m050;m050;m050;m050;m050;m050;m050;m050;m050;m050;h05",
                "s0:9");
        dueRichest(all, "9012345678");
    }
}
