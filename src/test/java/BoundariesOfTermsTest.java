/**
 * Each sentence of 'Terms' that names a boundary case, from chairs to tiers, with a test of its
 * own. Texts, reasons, changes and codes are in BoundariesOfOrdersTest.
 */
public final class BoundariesOfTermsTest {
    private static final int NONE = ChairLeague.NONE;
    private static final int BAD = ChairLeague.BAD;
    private static final int NOTHING = ChairLeague.NOTHING;
    private static final Check check = new Check("BoundariesOfTermsTest");

    public static void main(String[] args) {
        all().finish();
    }

    static Check all() {
        beginnings();
        chairs();
        musicians();
        fits();
        wishes();
        seasons();
        asking();
        bids();
        sales();
        concerts();
        stands();
        tiers();
        return check;
    }

    private static void sentence(String text) {
        check.sentence("Terms", text);
    }

    /** Chair by chair the musician, "." for none. */
    private static void dueSeats(String call, ChairLeague x, String seats) {
        check.due(call + ": chairs", x.account(0), seats.length());
        for (int chair = 0; chair < seats.length(); chair++) {
            boolean isEmpty = seats.charAt(chair) == '.';
            int due = isEmpty ? NOTHING : seats.charAt(chair) - '0';
            check.due(call + ": on chair " + chair, x.chairOf(chair, 7), due);
            if (!isEmpty) {
                check.due(call + ": the chair of " + due, x.musicianOf(due, 5), chair);
            }
        }
    }

    /** Who sits after a season, and who would by both ways ahead of it. */
    private static void dueSeason(String call, ChairLeague x, String seats) {
        int sitting = 0;
        for (int chair = 0; chair < seats.length(); chair++) {
            boolean isEmpty = seats.charAt(chair) == '.';
            int due = isEmpty ? NOTHING : seats.charAt(chair) - '0';
            check.due(call + ": would(" + chair + ")", x.would(chair), due);
            check.due(call + ": wouldAgain(" + chair + ")", x.wouldAgain(chair), due);
            sitting += isEmpty ? 0 : 1;
        }
        check.due(call + ": season", x.season(), sitting);
        dueSeats(call, x, seats);
        check.due(call + ": restless", x.restless(), 0);
    }

    private static void concerts(ChairLeague x, int weight, int times) {
        for (int k = 0; k < times; k++) {
            x.concert(weight);
        }
    }

    /** Ten chairs and ten musicians of one section, need, skill and demand. */
    private static ChairLeague tenAndTen() {
        ChairLeague x = new ChairLeague();
        for (int k = 0; k < 10; k++) {
            x.chair(0, 5);
            x.musician(0, 5, 0);
        }
        return x;
    }

    private static void beginnings() {
        sentence("A chair has one musician.");
        check.refused(Check.league("h05;m050;m060;s0:0"), "a second", x -> x.seat(0, 1),
                2, 1, 4, 0);
        dueSeason("three for one", Check.league("h05;m060;m050;m060"), "1");

        sentence("All numbers are whole, but two, and are rounded down if nothing else is said.");
        // A fit of 8 is 2 coins, with a skill below the need and with one above.
        ChairLeague x = Check.league("h05;h15;m240;m260;a;p1");
        check.due("9 less 1", x.fit(0, 0), 8);
        check.due("8 by 3", x.musicianOf(0, 3), 10);
        check.due("8 by 3", x.musicianOf(1, 3), 10);
        x = Check.league("h05;h15;m050;m250;s0:0;s1:1");
        check.dueDouble("the mean of 13 and 9", x.meanFit(), 11.0);
        Check.run(x, "m260;r1;s1:2");
        check.dueDouble("the mean of 13 and 8", x.meanFit(), 10.5);
        check.dueDouble("the share of none", x.fallenShare(), 0.0f);
        check.dueDouble("the share of half", Check.league("h05;h05;m040;a;p3").fallenShare(), 0.5f);
    }

    private static void chairs() {
        sentence("At most 10 chairs are there, numbered from 0");
        ChairLeague x = new ChairLeague();
        for (int k = 0; k < 10; k++) {
            check.due("no chair " + k + " yet", x.chairOf(k, 1), NONE);
            check.due("chair " + k, x.chair(0, 5), k);
            check.due("the need of " + k, x.chairOf(k, 1), 5);
        }
        check.refused("an eleventh", x, x.chair(0, 5), 1, 10);
        check.due("no chair 10", x.chairOf(10, 1), NONE);
        check.due("no chair -1", x.chairOf(-1, 1), NONE);
        check.due("chairs", x.account(0), 10);

        sentence("each in a section from 0 to 3");
        x = new ChairLeague();
        check.due("section -1", x.chair(-1, 5), BAD);
        check.due("section 4", x.chair(4, 5), BAD);
        check.due("section 0", x.chair(0, 5), 0);
        check.due("section 3", x.chair(3, 5), 1);
        check.due("section 3", x.chairOf(1, 0), 3);

        sentence("with a need from 1 to 9");
        x = new ChairLeague();
        check.due("need 0", x.chair(0, 0), BAD);
        check.due("need 10", x.chair(0, 10), BAD);
        check.due("need 1", x.chair(0, 1), 0);
        check.due("need 9", x.chair(0, 9), 1);
        check.due("need 9", x.chairOf(1, 1), 9);

        sentence("a cushion from 0 to 9, at first 0");
        x = Check.league("h05;m050;a");
        check.due("at first", x.chairOf(0, 2), 0);
        Check.run(x, "b0=1;c9");
        check.due("the best", x.chairOf(0, 2), 9);
        Check.run(x, "b0=1");
        check.due("one of 0 is not sold", x.sell(0), BAD);
        check.due("one of 10 is not sold", x.sell(10), BAD);
        check.due("the best stays", x.chairOf(0, 2), 9);

        sentence("a stand from 0 to 3, at first 3");
        x = Check.league("h05;m040;a");
        check.due("at first", x.chairOf(0, 3), 3);
        Check.run(x, "p1;u0");
        check.due("put up from 2", x.chairOf(0, 3), 3);
        Check.run(x, "p2;p4");
        check.due("worn by 2 and 4", x.chairOf(0, 3), 0);

        sentence("and a tier from 0 to 2, at first 0");
        x = Check.league("h05;m050;a;p1;p1;p1;p1;p1");
        check.due("at first", x.chairOf(0, 4), 0);
        check.due("the next", x.promote(0), 1);
        check.due("the next", x.promote(0), 2);
        check.refused("no other", x, x.promote(0), 13, 65);
        check.due("the highest", x.chairOf(0, 4), 2);
        comforts();
    }

    private static void comforts() {
        sentence("The comfort of a chair is its cushion, and 3 for each tier.");
        ChairLeague x = Check.league("h05;m050;a;p1;p1;p1;p1");
        check.due("the least", x.chairOf(0, 5), 0);
        x.promote(0);
        check.due("a tier", x.chairOf(0, 5), 3);
        Check.run(x, "b0=1;c1");
        check.due("a tier and a cushion", x.chairOf(0, 5), 4);
        Check.run(x, "b0=1;c9;t0");
        check.due("the greatest", x.chairOf(0, 5), 15);

        sentence("A chair whose stand is 0 has fallen.");
        x = Check.league("h05;m040;a;p2");
        check.due("a stand of 1", x.chairOf(0, 3), 1);
        check.due("has not fallen", x.account(3), 0);
        check.line("has not fallen", x, x.tell(0), "0s0n5c0:0");
        x.concert(1);
        check.due("a stand of 0", x.chairOf(0, 3), 0);
        check.due("has fallen", x.account(3), 1);
        check.line("has fallen", x, x.tell(0), "0s0n5c0x");
        check.due("would", x.would(0), NOTHING);
        check.dueDouble("the share", x.fallenShare(), 1.0f);
    }

    private static void musicians() {
        sentence("At most 10 musicians are there, numbered from 0");
        ChairLeague x = new ChairLeague();
        for (int k = 0; k < 10; k++) {
            check.due("no musician " + k + " yet", x.musicianOf(k, 1), NONE);
            check.due("musician " + k, x.musician(0, 5, 0), k);
            check.due("the skill of " + k, x.musicianOf(k, 1), 5);
        }
        check.refused("an eleventh", x, x.musician(0, 5, 0), 1, 10);
        check.due("no musician 10", x.musicianOf(10, 1), NONE);
        check.due("no musician -1", x.musicianOf(-1, 1), NONE);
        check.due("musicians", x.account(1), 10);

        sentence("each in a section, with a skill from 1 to 9");
        x = new ChairLeague();
        check.due("section -1", x.musician(-1, 5, 0), BAD);
        check.due("section 4", x.musician(4, 5, 0), BAD);
        check.due("skill 0", x.musician(0, 0, 0), BAD);
        check.due("skill 10", x.musician(0, 10, 0), BAD);
        check.due("section 0, skill 1", x.musician(0, 1, 0), 0);
        check.due("section 3, skill 9", x.musician(3, 9, 0), 1);
        check.due("section 3", x.musicianOf(1, 0), 3);
        check.due("skill 9", x.musicianOf(1, 1), 9);

        sentence("a demand from 0 to 9");
        x = new ChairLeague();
        check.due("demand -1", x.musician(0, 5, -1), BAD);
        check.due("demand 10", x.musician(0, 5, 10), BAD);
        check.due("demand 0", x.musician(0, 5, 0), 0);
        check.due("demand 9", x.musician(0, 5, 9), 1);
        check.due("demand 9", x.musicianOf(1, 2), 9);
        coins();
    }

    private static void coins() {
        sentence("and coins from 0 to 99, at first 8.");
        ChairLeague x = Check.league("h05;h15;m050;m150;a");
        check.due("at first", x.musicianOf(0, 3), 8);
        Check.run(x, "b0=8;b1=8;c1");
        check.due("all paid", x.musicianOf(0, 3), 0);
        check.refused("none to bid", x, x.bid(0, 1), 9, 0);
        concerts(x, 1, 24);
        check.due("0 and 24 times 4", x.musicianOf(0, 3), 96);
        x.concert(1);
        check.due("the most", x.musicianOf(0, 3), 99);

        sentence("What would be above 99 is lost.");
        x = Check.league("h05;h15;m050;s0:0");
        concerts(x, 1, 22);
        check.due("8 and 22 times 4", x.musicianOf(0, 3), 96);
        check.due("3 for another section", Check.run(x, "r0;s1:0;p1"), 3);
        check.due("99", x.musicianOf(0, 3), 99);
        check.due("nothing is lost", x.account(8), 0);
        x.concert(1);
        check.due("99", x.musicianOf(0, 3), 99);
        check.due("all is lost", x.account(8), 3);
        x = Check.league("h05;m050;a");
        concerts(x, 1, 23);
        check.due("99", x.musicianOf(0, 3), 99);
        check.due("1 of 4 is lost", x.account(8), 1);
        check.due("halls paid it", x.account(6), 92);
        check.due("isBalanced", x.isBalanced(), 1);

        sentence("A musician sits on one chair, or, as at first, on none, "
                + "and a chair has at most one musician.");
        x = Check.league("h05;h05;m050;m050");
        check.due("at first", x.musicianOf(0, 5), NOTHING);
        check.due("one", x.seat(0, 0), 1);
        check.refused("a second chair", x, x.seat(1, 0), 2, 0, 5, 0);
        check.refused("a second musician", x, x.seat(0, 1), 2, 1, 4, 0);
        dueSeats("one on one", x, "0.");
    }

    private static void fits() {
        sentence("The fit of a musician for a chair is 9 less what its need and the skill differ by,"
                + " and 4 more in the same section.");
        ChairLeague x = Check.league("h01;h05;h09;m010;m090;m110;m190;m150");
        check.due("nothing, own", x.fit(0, 0), 13);
        check.due("8 below, own", x.fit(2, 0), 5);
        check.due("8 above, own", x.fit(0, 1), 5);
        check.due("nothing, other", x.fit(0, 2), 9);
        check.due("8 below, other", x.fit(2, 2), 1);
        check.due("8 above, other", x.fit(0, 3), 1);
        check.due("4 below, other", x.fit(2, 4), 5);
        check.due("4 above, other", x.fit(0, 4), 5);
        check.due("4 above, own", x.fit(1, 1), 9);

        sentence("A chair wants a musician if the fit is 6 or more");
        // A difference of 3 in another section is 6, of 4 is 5; of 7 in the same is 6, of 8 is 5.
        wants("h05;m180", true);
        wants("h05;m190", false);
        wants("h05;m120", true);
        wants("h05;m110", false);
        wants("h01;m080", true);
        wants("h01;m090", false);
        wants("h09;m020", true);
        wants("h09;m010", false);

        sentence("a musician bears a chair that has not fallen if its comfort is not below the "
                + "demand");
        bears("h05;m050", true);
        bears("h05;m051", false);
        bears("h05;m050;a;b0=1;c4;r0", true);
        // A comfort of 5 of a tier and a cushion, and demands of 5 and 6.
        String five = "m060;h05;s0:0;b0=1;c2;p1;p1;t0;r0;m05";
        check.due("a demand of 5", Check.league(five + "5").seat(0, 1), 1);
        check.refused(Check.league(five + "6"), "a demand of 6", y -> y.seat(0, 1), 2, 1, 7, 5);
        dueSeason("a demand of 5", Check.league(five + "5"), "1");
        dueSeason("a demand of 6", Check.league(five + "6"), "0");
        String nine = "h05;m060;a;b0=1;c9;m059";
        dueSeason("a demand of 9", Check.league(nine), "1");
        // One that has fallen is not borne, whatever its comfort.
        x = Check.league("h09;m080;s0:0;b0=1;c9;p3");
        check.due("restless", x.restless(), 0);
        dueSeason("fallen", x, ".");
        x.raise(0);
        check.due("restless", x.restless(), 1);
        dueSeason("up", x, "0");
    }

    /** Whether chair 0 wants musician 0, in each place where that is asked. */
    private static void wants(String text, boolean isWanted) {
        ChairLeague x = Check.league(text);
        check.due(text + ": restless", x.restless(), isWanted ? 1 : 0);
        dueSeason(text, x, isWanted ? "0" : ".");
        ChairLeague y = Check.league(text);
        if (isWanted) {
            check.due(text + ": a fit", y.fit(0, 0), 6);
            check.due(text + ": seat", y.seat(0, 0), 1);
        } else {
            check.refused(text, y, y.seat(0, 0), 2, 0, 6, 5);
        }
    }

    /** Whether musician 0 bears chair 0, in each place where that is asked. */
    private static void bears(String text, boolean isBorne) {
        ChairLeague x = Check.league(text);
        check.due(text + ": restless", x.restless(), isBorne ? 1 : 0);
        check.due(text + ": would", x.would(0), isBorne ? 0 : NOTHING);
        check.due(text + ": wouldAgain", x.wouldAgain(0), isBorne ? 0 : NOTHING);
        if (isBorne) {
            check.due(text + ": seat", x.seat(0, 0), 1);
        } else {
            check.refused(text, x, x.seat(0, 0), 2, 0, 7, 0);
        }
    }

    private static void wishes() {
        sentence("A chair would rather have the one with the greater fit, of several the lowest");
        dueSeason("the greater", Check.league("h05;m060;m050"), "1");
        dueSeason("the greater", Check.league("h05;m050;m060"), "0");
        dueSeason("of two", Check.league("h05;m160;m040;m060"), "1");
        dueSeason("of ten", tenAndTen(), "0123456789");
        check.due("the lowest sits", Check.league("h05;m060;m040;s0:0").restless(), 0);
        check.due("another sits", Check.league("h05;m060;m040;s0:1").restless(), 1);
        // Own section and 4 less is no better than another section and the need.
        dueSeason("9 and 9", Check.league("h05;m090;m150"), "0");
        dueSeason("9 and 9", Check.league("h05;m150;m090"), "0");

        sentence("a musician would rather have the chair with the greater comfort, "
                + "of several the lowest.");
        dueSeason("equal", Check.league("h05;h05;m050"), "0.");
        String two = "h05;h05;h05;m050;s1:0;b0=1;c2;r0;s2:0;b0=1;";
        dueSeason("the greater", Check.league(two + "c3"), "..0");
        dueSeason("of several", Check.league(two + "c2"), ".0.");
        dueSeason("the lesser", Check.league(two + "c1"), ".0.");
        ChairLeague x = Check.league(two + "c2");
        check.due("the lowest is rather had", x.restless(), 1);
        // A comfort of 3 by a tier is as great as a cushion of 3.
        dueSeason("3 and 3", Check.league("h05;h05;m050;s1:0;p1;p1;t1;r0;s0:0;b0=1;c3"), "0.");
        dueSeason("2 and 3", Check.league("h05;h05;m050;s1:0;p1;p1;t1;r0;s0:0;b0=1;c2"), ".0");
    }

    private static void seasons() {
        sentence("When a season begins, all rise.");
        dueSeason("another takes the place", Check.league("h05;m060;s0:0;m050"), "1");
        // One who sits where it is no longer borne.
        dueSeason("not borne", Check.league("h05;m050;a;b0=1;c5;r0;m055;s0:1;b1=1;c4"), "0");
        dueSeason("nobody sat", Check.league("h05;m050"), "0");

        sentence("Then chairs that have not fallen ask:");
        dueSeason("one has", Check.league("h09;h09;m080;s0:0;p3"), ".0");
        dueSeason("both have", Check.league("h09;h09;m080;m080;a;p3"), "..");
        dueSeason("a stand of 1", Check.league("h09;h09;m080;s0:0;p2;r0"), "0.");

        sentence("as long as there is such a chair without a musician that wants one whom it has "
                + "not asked in this season, it asks the one whom it would rather have than all "
                + "the others whom it has not asked.");
        // Nine who do not bear it are asked ahead of the tenth.
        ChairLeague x = Check.league("h05;m051;m059;m061;m041;m071;m031;m151;m161;m141;m180");
        dueSeason("the tenth", x, "9");
        x = Check.league("h05;m051;m059;m061;m041;m071;m031;m151;m161;m141;m190");
        dueSeason("the tenth is not wanted", x, ".");
        // In another season all may be asked again.
        x = Check.league("h05;m053;m060");
        dueSeason("the first does not sit down", x, "1");
        Check.run(x, "b1=1;c3");
        dueSeason("the first sits down", x, "0");
        dueSeason("nobody to ask", Check.league("h05;h15"), "..");
        check.due("no chair that asks", Check.league("m050").season(), 0);

        sentence("Who is asked sits down on it, if the chair is borne, and if that one sits on "
                + "none, or on one than which it is rather had; the chair that is left has none "
                + "then.");
        dueSeason("borne", Check.league("h05;m050"), "0");
        dueSeason("not borne", Check.league("h05;m051"), ".");
        dueSeason("rather had", Check.league("h05;h05;m050;s1:0;b0=1;c4"), ".0");
        dueSeason("not rather had", Check.league("h05;h05;m050;s0:0;b0=1;c4"), "0.");
        dueSeason("as much, the lowest", Check.league("h05;h05;m050"), "0.");
        dueSeason("the left one asks on", Check.league("h05;h05;m050;s1:0;b0=1;c4;m060"), "10");
    }

    private static void asking() {
        sentence("In which order chairs ask makes no difference.");
        for (int kind = 0; kind < 60; kind++) {
            ChairLeague x = new ChairLeague();
            PlainLeague y = new PlainLeague();
            for (int k = 0; k < 10; k++) {
                int a = (k * 7 + kind * 3) % 9 + 1;
                int b = (k * 5 + kind * 11) % 9 + 1;
                x.chair((k + kind) % 2, a);
                y.chair((k + kind) % 2, a);
                int demand = k * kind % 13 == 1 ? 1 : 0;
                x.musician(k * kind % 3, b, demand);
                y.musician(k * kind % 3, b, demand);
            }
            cushions(x, y, kind);
            // The plain league asks in an order that is another one each time.
            for (int chair = 0; chair < 10; chair++) {
                check.due("would(" + chair + ")", x.would(chair), y.would(chair));
                check.due("wouldAgain(" + chair + ")", x.wouldAgain(chair), y.would(chair));
            }
            check.due("season", x.season(), y.season());
            for (int musician = 0; musician < 10; musician++) {
                check.due("the chair of " + musician, x.musicianOf(musician, 5),
                        y.musicianOf(musician, 5));
            }
        }
    }

    private static void cushions(ChairLeague x, PlainLeague y, int kind) {
        x.season();
        y.season();
        for (int k = 0; k < 10; k++) {
            int musician = (k * 3 + kind) % 10;
            check.due("bid", x.bid(musician, 1), y.bid(musician, 1));
            int cushion = 1 + (k + kind) % 3;
            check.due("sell", x.sell(cushion), y.sell(cushion));
        }
    }

    private static void bids() {
        sentence("A musician who sits bids coins for the next cushion, from 0 to as many as there "
                + "are.");
        ChairLeague x = Check.league("h05;m050;m050;s0:0");
        check.due("none", x.bid(0, 0), 0);
        check.due("all 8", x.bid(0, 8), 0);
        check.refused("9 of 8", x, x.bid(0, 9), 9, 8);
        check.due("-1", x.bid(0, -1), BAD);
        check.due("all 8 stay", x.musicianOf(0, 4), 8);
        check.due("none again", x.bid(0, 0), 8);
        check.refused("who does not sit", x, x.bid(1, 0), 8, 1);
        concerts(x, 1, 23);
        check.due("all 99", x.bid(0, 99), 0);
        check.due("100", x.bid(0, 100), BAD);
        check.due("all 99 stay", x.musicianOf(0, 4), 99);

        sentence("Then all bids are 0.");
        x = Check.league("h05;h05;h05;m050;m050;m050;a;b0=3;b1=3;b2=1;c1");
        for (int musician = 0; musician < 3; musician++) {
            check.due("the bid of " + musician, x.musicianOf(musician, 4), 0);
        }
        check.refused("nobody bids", x, x.sell(1), 10, 3);
        x = Check.league("h05;m050;a;b0=3;c1");
        check.due("alone", x.musicianOf(0, 4), 0);

        sentence("Who rises, or is made to, bids 0 then.");
        x = Check.league("h05;h15;m050;m150;a;b0=3;b1=2");
        x.rise(0);
        check.due("who rises", x.musicianOf(0, 4), 0);
        check.due("who does not", x.musicianOf(1, 4), 2);
        x.season();
        check.due("who rises for a season", x.musicianOf(1, 4), 0);
        check.due("and sits again", x.musicianOf(1, 5), 1);
        x = Check.league("h05;h15;m040;m140;a;b0=3;b1=2;p2;u1");
        x.concert(1);
        check.due("whose chair falls", x.musicianOf(0, 4), 0);
        check.due("whose chair does not", x.musicianOf(1, 4), 2);
    }

    private static void sales() {
        sentence("When a cushion from 1 to 9 is sold, it goes onto the chair of who bids the most, "
                + "of several the lowest, in place of the one there, which is gone");
        ChairLeague x = Check.league("h05;h15;m150;m050;a;b0=1;b1=2");
        check.due("0", x.sell(0), BAD);
        check.due("10", x.sell(10), BAD);
        check.due("1", x.sell(1), 1);
        check.due("the most", x.chairOf(0, 2), 1);
        check.due("less", x.chairOf(1, 2), 0);
        // Musician 0 sits on chair 1, so the lowest musician has the higher chair.
        Check.run(x, "b0=7;b1=7");
        check.due("9", x.sell(9), 7);
        check.due("the lowest", x.chairOf(1, 2), 9);
        check.due("the other", x.chairOf(0, 2), 1);
        Check.run(x, "b0=1");
        check.due("a worse one", x.sell(4), 0);
        check.due("in its place", x.chairOf(1, 2), 4);

        sentence("the buyer pays what the next highest one bids, or 0 alone, to the league.");
        x = Check.league("h05;h15;h25;m050;m150;m250;a;b0=2;b1=8;b2=5");
        check.due("the next highest", x.sell(1), 5);
        check.due("the buyer's coins", x.musicianOf(1, 3), 3);
        check.due("the next one's", x.musicianOf(2, 3), 8);
        check.due("the league's", x.account(5), 15);
        Check.run(x, "b2=8");
        check.due("alone", x.sell(1), 0);
        check.due("the buyer's coins", x.musicianOf(2, 3), 8);
        check.due("the league's", x.account(5), 15);
        Check.run(x, "b0=8;b2=8");
        check.due("as high", x.sell(1), 8);
        check.due("the buyer's coins", x.musicianOf(0, 3), 0);
        check.due("the league's", x.account(5), 23);
        Check.run(x, "b1=3;b2=0");
        check.due("a bid of 0 is none", x.sell(1), 0);
    }

    private static void concerts() {
        sentence("In a concert of a weight from 1 to 4, each musician who sits gets, from the hall,"
                + " as many coins as the fit is divided by 3, and the fit is added to the marks of "
                + "the chair.");
        ChairLeague x = Check.league("h05;h05;h05;m050;m060;m150;m050;s0:0;s1:1;s2:2");
        check.due("weight 0", x.concert(0), BAD);
        check.due("weight 5", x.concert(5), BAD);
        check.due("weight 1", x.concert(1), 13 + 12 + 9);
        check.due("13 by 3", x.musicianOf(0, 3), 12);
        check.due("12 by 3", x.musicianOf(1, 3), 12);
        check.due("9 by 3", x.musicianOf(2, 3), 11);
        check.due("who does not sit", x.musicianOf(3, 3), 8);
        check.due("the halls'", x.account(6), 11);
        check.due("the league's", x.account(5), 10);
        check.due("weight 4", x.concert(4), 13 + 12 + 9);
        check.due("marks", x.chairOf(0, 6), 26);
        check.due("marks", x.chairOf(2, 6), 18);
        x = Check.league("h05;h15;h25;m070;m380;m260;s0:0;s1:1;s2:2;p1");
        check.due("11 by 3", x.musicianOf(0, 3), 11);
        check.due("6 by 3", x.musicianOf(1, 3), 10);
        check.due("12 by 3", x.musicianOf(2, 3), 12);
        check.due("8 by 3", Check.league("h05;m160;a;p1").musicianOf(0, 3), 10);
        check.due("7 by 3", Check.league("h05;m170;a;p1").musicianOf(0, 3), 10);

        sentence("Then each stand of a chair with a musician becomes less by the weight if the "
                + "musician's skill is below the need, and otherwise by 1 if the weight is 4; not "
                + "below 0.");
        int[] below = {2, 1, 0, 0};
        int[] enough = {3, 3, 3, 2};
        for (int weight = 1; weight <= 4; weight++) {
            x = Check.league("h05;h15;h25;h35;m040;m150;m260;a");
            x.concert(weight);
            check.due("1 below, by " + weight, x.chairOf(0, 3), below[weight - 1]);
            check.due("as high, by " + weight, x.chairOf(1, 3), enough[weight - 1]);
            check.due("1 above, by " + weight, x.chairOf(2, 3), enough[weight - 1]);
            check.due("without one, by " + weight, x.chairOf(3, 3), 3);
            x = Check.league("h05;m040;a;p2");
            x.concert(weight);
            check.due("1 less " + weight, x.chairOf(0, 3), 0);
        }

        sentence("Who sits on a chair that falls by that rises.");
        x = Check.league("h05;h15;m040;m140;s0:0;p1;s1:1;p1");
        x.concert(1);
        dueSeats("one falls", x, ".1");
        check.due("rises", x.musicianOf(0, 5), NOTHING);
        check.due("the last coins", x.musicianOf(0, 3), 20);
        check.due("the last marks", x.chairOf(0, 6), 36);
        check.due("a stand of 1", x.chairOf(1, 3), 1);
    }

    private static void stands() {
        sentence("To put a stand up makes it 3 again, and costs the league 2 coins; it has 10 at "
                + "first.");
        ChairLeague x = Check.league("h05;m040");
        check.due("at first", x.account(5), 10);
        Check.run(x, "a;p1");
        check.due("from 2", x.raise(0), 8);
        check.due("3 again", x.chairOf(0, 3), 3);
        x.concert(2);
        check.due("from 1", x.raise(0), 6);
        check.due("3 again", x.chairOf(0, 3), 3);
        x.concert(3);
        check.due("from 0", x.raise(0), 4);
        check.due("3 again", x.chairOf(0, 3), 3);
        Check.run(x, "a;p1;u0;p1");
        check.due("the last 2", x.raise(0), 0);
        x.concert(1);
        check.refused("none left", x, x.raise(0), 9, 0);
        check.due("a stand of 2", x.chairOf(0, 3), 2);
        check.due("spent", x.account(7), 10);
    }

    private static void tiers() {
        sentence("A chair comes into the next tier if its marks are 20 for each tier that it would "
                + "have, or more; marks stay.");
        ChairLeague x = Check.league("h05;m050;m180;s0:0;p1;r0;s0:1;p1");
        check.refused("13 and 6 are 19", x, x.promote(0), 14, 1);
        x = Check.league("h05;m080;a;p1;p1");
        check.due("20", x.promote(0), 1);
        check.due("marks stay", x.chairOf(0, 6), 20);
        check.refused("20 for the next", x, x.promote(0), 14, 20);
        Check.run(x, "p1;p1");
        check.due("40", x.promote(0), 2);
        check.due("marks stay", x.chairOf(0, 6), 40);
        x = Check.league("h05;m050;a;p1;p1");
        check.due("26", x.promote(0), 1);
        x.concert(1);
        check.refused("39", x, x.promote(0), 14, 1);
        check.due("the tier stays", x.chairOf(0, 4), 1);
        x.concert(1);
        check.due("52", x.promote(0), 2);
    }
}
