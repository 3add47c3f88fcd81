import java.util.List;

/** Promises 7 to 12. */
public final class SeatsTest {
    private static final int NONE = ChairLeague.NONE;
    private static final int NOTHING = ChairLeague.NOTHING;
    private static final int[] FAR = {Integer.MIN_VALUE, -2, -1, 10, 1 << 20, Integer.MAX_VALUE};
    private static final Check check = new Check("SeatsTest");

    public static void main(String[] args) {
        seat();
        seatReasonsInOrder();
        rise();
        season();
        seasonEdges();
        would();
        wouldOfMany();
        restless();
        check.finish();
    }

    /** Chair by chair the musician, "." for none. */
    private static String seats(ChairLeague x) {
        StringBuilder seats = new StringBuilder();
        for (int chair = 0; chair < x.account(0); chair++) {
            int musician = x.chairOf(chair, 7);
            seats.append(musician < 0 ? "." : musician);
        }
        return seats.toString();
    }

    private static void dueSeats(ChairLeague x, String seats) {
        check.dueText("the seats", seats(x), seats);
        for (int chair = 0; chair < seats.length(); chair++) {
            if (seats.charAt(chair) != '.') {
                check.due("the chair", x.musicianOf(seats.charAt(chair) - '0', 5), chair);
            }
        }
    }

    /** What would be in a season, by both ways. */
    private static void dueWould(ChairLeague x, String seats) {
        for (int chair = 0; chair < seats.length(); chair++) {
            int due = seats.charAt(chair) == '.' ? NOTHING : seats.charAt(chair) - '0';
            check.due("would(" + chair + ")", x.would(chair), due);
            check.due("wouldAgain(" + chair + ")", x.wouldAgain(chair), due);
        }
    }

    private static void seat() {
        check.part("promise 7");
        ChairLeague x = Check.league("h05;h15;h25;m050;m150;m250;m091");
        check.due("chair 3", x.seat(3, 0), NONE);
        check.due("chair -1", x.seat(-1, 0), NONE);
        check.due("musician 4", x.seat(0, 4), NONE);
        check.due("musician -1", x.seat(0, -1), NONE);
        for (int far : FAR) {
            check.due("chair " + far, x.seat(far, 0), NONE);
            check.due("musician " + far, x.seat(0, far), NONE);
        }
        check.reasons("NONE", x);
        check.due("changes", x.account(13), 1);
        check.due("the first", x.seat(1, 0), 1);
        check.due("the second", x.seat(0, 2), 2);
        check.due("changes", x.account(13), 3);
        dueSeats(x, "20.");
        check.refused("taken", x, x.seat(0, 1), 2, 1, 4, 2);
        check.refused("taken by the same", x, x.seat(0, 2), 2, 2, 4, 2);
        check.refused("sits", x, x.seat(2, 0), 2, 0, 5, 1);
        check.refused("not wanted", x, x.seat(2, 3), 2, 3, 6, 5);
        check.due("NONE", x.seat(3, 3), NONE);
        check.reasons("kept", x, 2, 3, 6, 5);
        check.due("the third", x.seat(2, 1), 3);
        dueSeats(x, "201");
        check.due("changes", x.account(13), 4);
        // A fit of 6 is wanted; a comfort as high as the demand is borne.
        ChairLeague y = Check.league("h05;h02;m250;m183;m180;m093");
        check.refused("fit of 5", y, y.seat(1, 1), 2, 1, 6, 3);
        check.due("a fit of 6", y.seat(0, 2), 1);
        check.refused("not borne", y, y.seat(1, 3), 2, 3, 7, 0);
    }

    private static void seatReasonsInOrder() {
        check.part("promise 7, in order");
        // Chair 0 falls under musician 0; chair 1 has musician 1; musician 2 has skill 1, demand 9.
        ChairLeague x = Check.league("h09;h15;h35;h21;h22;m080;m150;m219;s0:0;s1:1;p3");
        check.due("stand", x.chairOf(0, 3), 0);
        check.due("sits no more", x.musicianOf(0, 5), NOTHING);
        check.refused("fallen ahead of sits", x, x.seat(0, 1), 2, 1, 3, 1);
        check.refused("fallen", x, x.seat(0, 0), 2, 0, 3, 1);
        check.refused("fallen ahead of not wanted", x, x.seat(0, 2), 2, 2, 3, 1);
        check.refused("taken ahead of sits", x, x.seat(1, 1), 2, 1, 4, 1);
        check.refused("taken ahead of not wanted", x, x.seat(1, 2), 2, 2, 4, 1);
        check.refused("sits ahead of not wanted", x, x.seat(3, 1), 2, 1, 5, 1);
        check.refused("not wanted ahead of not borne", x, x.seat(2, 2), 2, 2, 6, 5);
        check.refused("not borne", x, x.seat(3, 2), 2, 2, 7, 0);
        check.refused("not borne", x, x.seat(4, 2), 2, 2, 7, 0);
        check.due("sitting", x.account(2), 1);
        // A second chair falls: how many have.
        ChairLeague y = Check.league("h09;h09;h05;m080;m080;a;p4");
        check.refused("two have fallen", y, y.seat(1, 0), 2, 0, 3, 2);
        // Comfort that is told, and as high as the demand: 3 for a tier and the cushion.
        ChairLeague z = Check.league("h05;m050;m055;m056;a;p1;p1;t0;b0=0");
        z.bid(0, 1);
        z.sell(2);
        z.rise(0);
        check.due("comfort", z.chairOf(0, 5), 5);
        check.refused("not borne", z, z.seat(0, 2), 2, 2, 7, 5);
        check.due("just borne", z.seat(0, 1), 1);
    }

    private static void rise() {
        check.part("promise 8");
        ChairLeague x = Check.league("h05;h15;m050;m150;m250;s1:0;s0:1");
        check.due("musician 3", x.rise(3), NONE);
        check.due("musician -1", x.rise(-1), NONE);
        for (int far : FAR) {
            check.due("musician " + far, x.rise(far), NONE);
        }
        check.reasons("NONE", x);
        check.refused("does not sit", x, x.rise(2), 8, 2);
        x.bid(0, 5);
        x.bid(1, 4);
        check.due("rises", x.rise(0), 1);
        dueSeats(x, "1.");
        check.due("its chair", x.musicianOf(0, 5), NOTHING);
        check.due("its bid", x.musicianOf(0, 4), 0);
        check.due("the other's bid", x.musicianOf(1, 4), 4);
        check.refused("does not sit", x, x.rise(0), 8, 1);
        check.due("sits again", x.seat(1, 0), 2);
        check.due("its bid", x.musicianOf(0, 4), 0);
        check.due("rises", x.rise(1), 0);
        check.due("rises", x.rise(0), 1);
        check.refused("does not sit", x, x.rise(1), 8, 0);
        check.due("sitting", x.account(2), 0);
    }

    private static void season() {
        check.part("promise 9");
        // Both chairs would rather have 0; it would rather have the lowest of equal comfort.
        ChairLeague x = Check.league("h05;h05;m050;m070");
        check.due("season", x.season(), 2);
        dueSeats(x, "01");
        check.due("seasons", x.account(10), 1);
        // With a cushion on 1, 0 comes to sit there, and 1 is left for chair 0.
        x.bid(1, 1);
        x.sell(4);
        x.bid(0, 3);
        check.due("season", x.season(), 2);
        dueSeats(x, "10");
        check.due("bids are 0", x.musicianOf(0, 4), 0);
        check.due("seasons", x.account(10), 2);
        check.due("changes", x.account(13), 6);
        // Of equal fits the lowest is asked first.
        ChairLeague y = Check.league("h05;m060;m040;m140;m050");
        check.due("season", y.season(), 1);
        dueSeats(y, "3");
        y = Check.league("h05;m140;m060;m040");
        check.due("season", y.season(), 1);
        dueSeats(y, "1");
        // Who sits where nobody asks rises all the same: all rise.
        ChairLeague z = Check.league("h05;m060;s0:0;m050");
        check.due("season", z.season(), 1);
        dueSeats(z, "1");
        check.due("rose", z.musicianOf(0, 5), NOTHING);
    }

    private static void seasonEdges() {
        check.part("promise 9, edges");
        // A fit of 6 is wanted, one of 5 is not.
        ChairLeague x = Check.league("h05;h09;m180;m150");
        check.due("season", x.season(), 2);
        dueSeats(x, "10");
        x = Check.league("h05;m190;a");
        dueSeats(x, ".");
        x = Check.league("h05;m180;a");
        dueSeats(x, "0");
        // A demand that is not met: the chair asks the next one.
        x = Check.league("h05;m051;m060;a");
        dueSeats(x, "1");
        // Demands that are just met.
        x = Check.league("h05;m050;a;b0=1;c3;m053;r0;m054");
        check.refused("4 is not borne", x, x.seat(0, 2), 2, 2, 7, 3);
        x = Check.league("h05;m060;a;b0=1;c3;m053;a");
        dueSeats(x, "1");
        x = Check.league("h05;m060;a;b0=1;c3;m054;a");
        dueSeats(x, "0");
        // A fallen chair does not ask; with its stand up it does.
        x = Check.league("h09;m080;a;p3;a");
        dueSeats(x, ".");
        check.due("raise", x.raise(0), 8);
        check.due("season", x.season(), 1);
        dueSeats(x, "0");
        // Nobody there, or no chairs.
        x = Check.league("h05;h05;a");
        dueSeats(x, "..");
        check.due("no chairs", Check.league("m050;m050").season(), 0);
        // A chain: each cushion is better, and each chair asks for the same ones.
        x = Check.league("h05;m050;a;b0=1;c1;h05;r0;s1:0;b0=1;c2;h05;r0;s2:0");
        x.bid(0, 1);
        x.sell(3);
        Check.run(x, "m060;m070;m080");
        check.due("season", x.season(), 3);
        dueSeats(x, "210");
        check.due("restless", x.restless(), 0);
    }

    private static void would() {
        check.part("promises 10 and 11");
        ChairLeague x = Check.league("h05;h05;m070;s0:0;m050;h19");
        List<Number> before = Check.allOf(x);
        int changes = x.account(13);
        dueWould(x, "10.");
        check.due("nothing is changed", before.equals(Check.allOf(x)) ? 1 : 0, 1);
        check.due("changes", x.account(13), changes);
        for (int far : new int[] {-1, 3, 4, 9, 10, Integer.MIN_VALUE, Integer.MAX_VALUE}) {
            check.due("would " + far, x.would(far), NONE);
            check.due("wouldAgain " + far, x.wouldAgain(far), NONE);
        }
        // Fallen: would have none.
        x = Check.league("h09;h08;m080;s0:0;p3");
        dueWould(x, ".0");
        x.raise(0);
        // Of equal comforts the lowest chair: a fit plays no part in what musicians choose.
        dueWould(x, "0.");
        // A demand, a fit of 5.
        x = Check.league("h05;h15;m051;m290");
        dueWould(x, "..");
        x = Check.league("h05;h15;m180;m170");
        dueWould(x, "10");
    }

    private static void wouldOfMany() {
        check.part("promises 10 and 11, many");
        // Chairs 0 to 8 have comforts from 1 to 9, chair 9 has 0.
        ChairLeague x = new ChairLeague();
        x.musician(0, 5, 0);
        for (int chair = 0; chair < 9; chair++) {
            x.chair(0, 5);
            x.seat(chair, 0);
            x.bid(0, 1);
            x.sell(chair + 1);
            x.rise(0);
        }
        x.chair(0, 5);
        // Musicians 1 to 9 have demands from 9 down to 1; all fits are 13.
        for (int musician = 1; musician < 10; musician++) {
            x.musician(0, 5, 10 - musician);
        }
        // Musician 0 would rather have chair 8 and is had by it; of the rest, who has demand d
        // bears the chair of comfort d at the least, and 1 is left with none.
        dueWould(x, "987654320.");
        check.due("season", x.season(), 9);
        dueSeats(x, "987654320.");
        check.due("restless", x.restless(), 0);
        check.due("isBalanced", x.isBalanced(), 1);
    }

    private static void restless() {
        check.part("promise 12");
        ChairLeague x = Check.league("h05;m050");
        check.due("both free", x.restless(), 1);
        x.seat(0, 0);
        check.due("the pair sits", x.restless(), 0);
        // The chair has one of a lower fit, of the same fit and higher, and of the same and lower.
        check.due("lower fit", Check.league("h05;m050;m060;s0:1").restless(), 1);
        check.due("equal and lower", Check.league("h05;m060;m040;s0:1").restless(), 1);
        check.due("equal and higher", Check.league("h05;m060;m040;s0:0").restless(), 0);
        check.due("greater fit", Check.league("h05;m050;m060;s0:0").restless(), 0);
        // The musician sits on a chair of the same comfort, lower or higher.
        check.due("higher chair", Check.league("h05;h05;m050;s1:0").restless(), 1);
        check.due("lower chair", Check.league("h05;h05;m050;s0:0").restless(), 0);
        check.due("more comfort", Check.league("h05;h05;m050;s1:0;b0=1;c1").restless(), 0);
        check.due("less comfort", Check.league("h05;h05;m050;s1:0;b0=1;c1;r0;s0:0").restless(), 1);
        // Not wanted, not borne, fallen.
        check.due("a fit of 5", Check.league("h05;m190").restless(), 0);
        check.due("a fit of 6", Check.league("h05;m180").restless(), 1);
        check.due("not borne", Check.league("h05;m051").restless(), 0);
        check.due("just borne", Check.league("h05;m050;s0:0;b0=1;c1;r0;m051").restless(), 2);
        check.due("fallen", Check.league("h09;m080;s0:0;p3").restless(), 0);
        check.due("up", Check.league("h09;m080;s0:0;p3;u0").restless(), 1);
        // Several: chairs 0 and 1 free, musicians 0 and 1 free, 2 of another section and fit 9.
        check.due("pairs", Check.league("h05;h05;m050;m060;m250").restless(), 6);
        check.due("without chairs", Check.league("m050;m060").restless(), 0);
        check.due("without musicians", Check.league("h05;h05").restless(), 0);
        check.due("changes", x.account(13), 2);
    }
}
