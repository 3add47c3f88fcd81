/** Promises 13 to 16. */
public final class CushionsAndConcertsTest {
    private static final int NONE = ChairLeague.NONE;
    private static final int BAD = ChairLeague.BAD;
    private static final int NOTHING = ChairLeague.NOTHING;
    private static final int[] FAR = {Integer.MIN_VALUE, -1012, -2, 100, 1 << 20,
        Integer.MAX_VALUE};
    private static final Check check = new Check("CushionsAndConcertsTest");

    public static void main(String[] args) {
        bid();
        sell();
        sellWhoAndWhat();
        concert();
        concertCoins();
        concertStands();
        lasts();
        lastsAsConcertsDo();
        check.finish();
    }

    private static void bid() {
        check.part("promise 13");
        ChairLeague x = Check.league("h05;h15;m050;m150;m250;s1:0;s0:1");
        check.due("musician 3", x.bid(3, 1), NONE);
        check.due("musician -1", x.bid(-1, 1), NONE);
        check.due("NONE ahead of BAD", x.bid(3, 100), NONE);
        check.due("100", x.bid(0, 100), BAD);
        check.due("-1", x.bid(0, -1), BAD);
        check.due("BAD ahead of REFUSED", x.bid(2, 100), BAD);
        for (int far : FAR) {
            check.due("musician " + far, x.bid(far, 1), NONE);
            check.due("coins " + far, x.bid(0, far), BAD);
        }
        check.reasons("no reason", x);
        check.refused("does not sit", x, x.bid(2, 0), 8, 2);
        check.refused("does not sit ahead of too few", x, x.bid(2, 9), 8, 2);
        check.refused("too few", x, x.bid(0, 9), 9, 8);
        check.refused("too few", x, x.bid(0, 99), 9, 8);
        check.due("changes", x.account(13), 1);
        check.due("all coins", x.bid(0, 8), 0);
        check.due("the bid", x.musicianOf(0, 4), 8);
        check.due("the coins", x.musicianOf(0, 3), 8);
        check.due("the other's", x.musicianOf(1, 4), 0);
        check.refused("too few", x, x.bid(0, 9), 9, 8);
        check.due("the bid", x.musicianOf(0, 4), 8);
        check.due("less", x.bid(0, 3), 8);
        check.due("the other's", x.bid(1, 1), 0);
        check.due("none", x.bid(0, 0), 3);
        check.due("none again", x.bid(0, 0), 0);
        check.due("changes", x.account(13), 6);
        x.concert(1);
        check.refused("too few", x, x.bid(1, 12), 9, 11);
        check.due("as many", x.bid(1, 11), 1);
    }

    private static void sell() {
        check.part("promise 14");
        ChairLeague x = Check.league("h05;h15;m050;m150;m250;s1:0;s0:1");
        check.due("cushion 0", x.sell(0), BAD);
        check.due("cushion 10", x.sell(10), BAD);
        for (int far : FAR) {
            check.due("cushion " + far, x.sell(far), BAD);
        }
        check.reasons("BAD", x);
        check.refused("nobody bids", x, x.sell(4), 10, 2);
        x.bid(0, 5);
        check.due("BAD", x.sell(10), BAD);
        x.bid(1, 7);
        check.due("sold", x.sell(4), 5);
        check.due("the buyer's cushion", x.chairOf(0, 2), 4);
        check.due("the other's", x.chairOf(1, 2), 0);
        check.due("the buyer's coins", x.musicianOf(1, 3), 3);
        check.due("the other's", x.musicianOf(0, 3), 8);
        check.due("the league's", x.account(5), 15);
        check.due("bids", x.musicianOf(0, 4) + x.musicianOf(1, 4), 0);
        check.due("sold so far", x.account(11), 1);
        check.due("stays", x.musicianOf(1, 5), 0);
        check.refused("nobody bids", x, x.sell(4), 10, 2);
        x.rise(1);
        check.refused("nobody bids", x, x.sell(4), 10, 1);
        x.bid(0, 3);
        x.bid(0, 0);
        check.refused("0 is no bid", x, x.sell(4), 10, 1);
        ChairLeague y = new ChairLeague();
        check.refused("nobody is there", y, y.sell(9), 10, 0);
    }

    private static void sellWhoAndWhat() {
        check.part("promise 14, who buys");
        // Of several the lowest, who pays as much as the next highest one bids.
        ChairLeague x = Check.league("h05;h15;h25;m250;m150;m050;a");
        check.due("the seats", x.musicianOf(0, 5), 2);
        x.bid(1, 6);
        x.bid(0, 6);
        check.due("equal bids", x.sell(9), 6);
        check.due("the buyer's cushion", x.chairOf(2, 2), 9);
        check.due("the buyer's coins", x.musicianOf(0, 3), 2);
        x.bid(2, 8);
        check.due("alone", x.sell(7), 0);
        check.due("the buyer's cushion", x.chairOf(0, 2), 7);
        check.due("the buyer's coins", x.musicianOf(2, 3), 8);
        check.due("the league's", x.account(5), 16);
        x.bid(2, 8);
        check.due("a worse one", x.sell(1), 0);
        check.due("takes its place", x.chairOf(0, 2), 1);
        x.bid(0, 1);
        x.bid(1, 5);
        x.bid(2, 8);
        check.due("three bid", x.sell(2), 5);
        check.due("the buyer's coins", x.musicianOf(2, 3), 3);
        x.bid(0, 2);
        x.bid(1, 5);
        x.bid(2, 3);
        check.due("three bid", x.sell(1), 3);
        check.due("the buyer's cushion", x.chairOf(1, 2), 1);
        x.bid(0, 2);
        x.bid(1, 1);
        check.due("two bid", x.sell(3), 1);
        check.due("the buyer's cushion", x.chairOf(2, 2), 3);
        check.due("bids are 0", x.musicianOf(0, 4) + x.musicianOf(1, 4), 0);
        check.due("the league's", x.account(5), 10 + 6 + 5 + 3 + 1);
        check.due("sold so far", x.account(11), 6);
        check.due("isBalanced", x.isBalanced(), 1);
        // Who stays on a chair that is no longer borne.
        ChairLeague y = Check.league("h05;m050;a;b0=1;c5;m055;r0;s0:1;b1=1;c4");
        check.due("stays", y.chairOf(0, 7), 1);
        check.due("comfort", y.chairOf(0, 5), 4);
        // Who rises or is made to rise bids no more.
        y = Check.league("h05;h15;m050;m150;a;b0=5;b1=4;r0;s0:0");
        check.due("alone", y.sell(1), 0);
        check.due("the buyer's cushion", y.chairOf(1, 2), 1);
        y = Check.league("h05;h15;m050;m150;a;b0=5;b1=4;a");
        check.refused("all rose", y, y.sell(1), 10, 2);
    }

    private static void concert() {
        check.part("promise 15");
        ChairLeague x = new ChairLeague();
        check.refused("nobody there", x, x.concert(1), 11, 0);
        Check.run(x, "h05;h15;h25;m080;m150;m261");
        check.refused("nobody sits", x, x.concert(4), 11, 3);
        x.seat(0, 0);
        for (int far : FAR) {
            check.due("weight " + far, x.concert(far), BAD);
        }
        check.due("weight 0", x.concert(0), BAD);
        check.due("weight 5", x.concert(5), BAD);
        check.reasons("kept", x, 11, 3);
        check.due("BAD ahead of REFUSED", new ChairLeague().concert(5), BAD);
        check.due("concerts", x.account(9), 0);
        // Fits of 10 and 9: 3 coins each.
        check.due("one sits", x.concert(1), 10);
        x.seat(2, 1);
        check.due("two sit", x.concert(2), 19);
        check.due("marks", x.chairOf(0, 6), 20);
        check.due("marks", x.chairOf(1, 6), 0);
        check.due("marks", x.chairOf(2, 6), 9);
        check.due("coins", x.musicianOf(0, 3), 14);
        check.due("coins", x.musicianOf(1, 3), 11);
        check.due("coins", x.musicianOf(2, 3), 8);
        check.due("played", x.musicianOf(0, 6), 2);
        check.due("played", x.musicianOf(1, 6), 1);
        check.due("played", x.musicianOf(2, 6), 0);
        check.due("concerts", x.account(9), 2);
        check.due("halls paid", x.account(6), 9);
        // Marks are those of all who sat on the chair.
        x.rise(0);
        x.rise(1);
        x.seat(0, 1);
        check.due("another", x.concert(3), 9);
        check.due("marks", x.chairOf(0, 6), 29);
        check.due("league", x.account(5), 10);
    }

    private static void concertCoins() {
        check.part("promise 15, coins");
        // A coin for each 3 of a fit, rounded down: fits from 6 to 13 of one skill below or above.
        int[] coins = {2, 2, 2, 3, 3, 3, 4, 4};
        for (int fit = 6; fit <= 13; fit++) {
            ChairLeague x = new ChairLeague();
            x.chair(0, 1);
            int skill = fit > 9 ? 14 - fit : 10 - fit;
            x.musician(fit > 9 ? 0 : 1, skill, 0);
            check.due("seat", x.seat(0, 0), 1);
            check.due("concert", x.concert(1), fit);
            check.due("coins for " + fit, x.musicianOf(0, 3), 8 + coins[fit - 6]);
            check.due("halls paid", x.account(6), coins[fit - 6]);
            check.due("isBalanced", x.isBalanced(), 1);
        }
        // What would be above 99 is lost.
        ChairLeague x = Check.league("h05;h15;m050;m150;a");
        for (int k = 0; k < 22; k++) {
            x.concert(3);
        }
        check.due("coins", x.musicianOf(0, 3), 96);
        check.due("lost", x.account(8), 0);
        x.concert(3);
        check.due("coins", x.musicianOf(0, 3), 99);
        check.due("lost", x.account(8), 1 + 1);
        x.concert(3);
        check.due("coins", x.musicianOf(0, 3), 99);
        check.due("lost", x.account(8), 2 + 8);
        check.due("halls paid", x.account(6), 24 * 8);
        check.due("the musicians'", x.account(4), 198);
        check.due("isBalanced", x.isBalanced(), 1);
        check.due("all coins", x.bid(0, 99), 0);
        check.due("100", x.bid(0, 100), BAD);
        x.bid(1, 98);
        check.due("sold", x.sell(1), 98);
        check.due("coins", x.musicianOf(0, 3), 1);
        check.due("league", x.account(5), 108);
        // 99 is the limit of each, not of all together.
        ChairLeague y = Check.league("h05;h15;m060;m150;a");
        for (int k = 0; k < 23; k++) {
            y.concert(1);
        }
        check.due("coins", y.musicianOf(0, 3), 99);
        check.due("the musicians'", y.account(4), 99 + 99);
        check.due("lost", y.account(8), 1 + 1);
    }

    private static void concertStands() {
        check.part("promise 15, stands");
        // Skill below the need: less by the weight. As high or above: by 1 if the weight is 4.
        int[] below = {2, 1, 0, 0};
        int[] enough = {3, 3, 3, 2};
        for (int weight = 1; weight <= 4; weight++) {
            ChairLeague x = Check.league("h05;h15;h25;h35;m040;m150;m260;a;b0=8;b1=2");
            check.due("fits", x.concert(weight), 12 + 13 + 12);
            check.due("below", x.chairOf(0, 3), below[weight - 1]);
            check.due("equal", x.chairOf(1, 3), enough[weight - 1]);
            check.due("above", x.chairOf(2, 3), enough[weight - 1]);
            check.due("without a musician", x.chairOf(3, 3), 3);
            boolean falls = weight >= 3;
            check.due("rises", x.chairOf(0, 7), falls ? NOTHING : 0);
            check.due("rises", x.musicianOf(0, 5), falls ? NOTHING : 0);
            check.due("bids no more", x.musicianOf(0, 4), falls ? 0 : 8);
            check.due("bids on", x.musicianOf(1, 4), 2);
            check.due("has played", x.musicianOf(0, 6), 1);
            check.due("is paid", x.musicianOf(0, 3), 12);
            check.due("marks", x.chairOf(0, 6), 12);
            check.due("sitting", x.account(2), falls ? 2 : 3);
            check.due("fallen", x.account(3), falls ? 1 : 0);
            check.due("isBalanced", x.isBalanced(), 1);
        }
        // 3, 2, 1, 0 and three of weight 4.
        ChairLeague x = Check.league("h05;h15;m040;m150;a;p1;p1");
        check.due("stand", x.chairOf(0, 3), 1);
        check.due("sits", x.musicianOf(0, 5), 0);
        x.concert(1);
        check.due("stand", x.chairOf(0, 3), 0);
        check.due("rises", x.musicianOf(0, 5), NOTHING);
        x.concert(4);
        x.concert(4);
        check.due("stand", x.chairOf(1, 3), 1);
        check.due("the last", x.concert(4), 13);
        check.due("stand", x.chairOf(1, 3), 0);
        check.refused("nobody sits", x, x.concert(4), 11, 2);
        check.due("concerts", x.account(9), 6);
        check.due("fallen", x.account(3), 2);
        // A stand of 1 and a weight of 3: not below 0.
        x = Check.league("h05;m040;a;p2;p3");
        check.due("stand", x.chairOf(0, 3), 0);
    }

    private static void lasts() {
        check.part("promise 16");
        ChairLeague x = Check.league("h05;m040;m150");
        check.due("weight 0", x.lasts(0), BAD);
        check.due("weight 5", x.lasts(5), BAD);
        for (int far : FAR) {
            check.due("weight " + far, x.lasts(far), BAD);
        }
        check.due("nobody sits", x.lasts(1), NOTHING);
        check.due("nobody sits", x.lasts(4), NOTHING);
        x.seat(0, 0);
        dueLasts(x, 2, 1, 0, 0);
        x.concert(1);
        dueLasts(x, 1, 0, 0, 0);
        x.concert(1);
        dueLasts(x, 0, 0, 0, 0);
        x.concert(1);
        dueLasts(x, NOTHING, NOTHING, NOTHING, NOTHING);
        check.due("changes", x.account(13), 5);
        // Enough skill: only the weight 4 wears.
        x = Check.league("h05;m050;a");
        dueLasts(x, NOTHING, NOTHING, NOTHING, 2);
        x.concert(4);
        dueLasts(x, NOTHING, NOTHING, NOTHING, 1);
        x.concert(4);
        dueLasts(x, NOTHING, NOTHING, NOTHING, 0);
        // The first that falls, wherever it is.
        x = Check.league("h05;h15;m040;m150;a");
        dueLasts(x, 2, 1, 0, 0);
        x = Check.league("h05;h15;m050;m140;a");
        dueLasts(x, 2, 1, 0, 0);
        x = Check.league("h05;h15;m040;m140;s0:0;p1;p1;s1:1");
        dueLasts(x, 0, 0, 0, 0);
        x = Check.league("h05;h15;m040;m140;s1:1;p1;p1;s0:0");
        dueLasts(x, 0, 0, 0, 0);
        x = Check.league("h05;h15;m040;m140;s1:1;p1;s0:0");
        dueLasts(x, 1, 0, 0, 0);
        x = Check.league("h05;h15;m050;m150;a;r1;p4;s1:1");
        dueLasts(x, NOTHING, NOTHING, NOTHING, 1);
        // A worn chair without a musician does not fall.
        x = Check.league("h05;m040;m150;a;p2;r0");
        dueLasts(x, NOTHING, NOTHING, NOTHING, NOTHING);
    }

    private static void dueLasts(ChairLeague x, int... due) {
        for (int weight = 1; weight <= 4; weight++) {
            check.due("lasts(" + weight + ")", x.lasts(weight), due[weight - 1]);
        }
    }

    private static void lastsAsConcertsDo() {
        check.part("promise 16, by concerts");
        for (int weight = 1; weight <= 4; weight++) {
            ChairLeague x = Check.league("h09;h15;h24;h31;m080;m170;m210;m310;a;p1");
            int due = x.lasts(weight);
            int concerts = 0;
            int fallen = x.account(3);
            for (int k = 0; k < 20; k++) {
                x.concert(weight);
                if (x.account(3) > fallen) {
                    break;
                }
                concerts++;
            }
            check.due("lasts(" + weight + ")", due, concerts);
        }
    }
}
