/**
 * Seasons, without asking and choosing: of all the ways in which those who may sit can be seated,
 * those are looked for that nobody would rather have otherwise. All musicians would rather have
 * the same of two chairs, so there is only one such way, and a season must find that one.
 */
public final class StableSeatsTest {
    private static final int RUNS = 4000;
    private static final int MOST = 5; // of each, as all ways are tried
    private static final int MOST_STEPS = 60;
    private static final Check check = new Check("StableSeatsTest");
    private static long seed;

    private static ChairLeague league;
    private static int chairs;
    private static int musicians;
    private static int[][] fit;
    private static boolean[][] maySit;
    private static int[] comfort;
    private static int[] sitter;
    private static int[] onlySitter;
    private static int ways;

    public static void main(String[] args) {
        for (int run = 0; run < RUNS; run++) {
            seed = 104729L * run + 3;
            check.part("run " + run);
            play();
            look();
            askHowManyAreRestless();
            askForTheOnlyWay();
        }
        check.finish();
    }

    // A generator of its own, so that each run is the same everywhere.
    private static int any(int below) {
        seed = seed * 6364136223846793005L + 1442695040888963407L;
        return (int) ((seed >>> 33) % below);
    }

    /** Chairs and musicians, and steps that give them cushions, tiers and fallen stands. */
    private static void play() {
        league = new ChairLeague();
        chairs = 1 + any(MOST);
        musicians = 1 + any(MOST);
        int sections = 1 + any(4);
        for (int chair = 0; chair < chairs; chair++) {
            league.chair(any(sections), 1 + any(9));
        }
        for (int musician = 0; musician < musicians; musician++) {
            league.musician(any(sections), 1 + any(9), any(3) == 0 ? any(10) : 0);
        }
        int steps = any(MOST_STEPS);
        for (int step = 0; step < steps; step++) {
            switch (any(7)) {
                case 0: league.season(); break;
                case 1: league.concert(1 + any(4)); break;
                case 2: league.bid(any(musicians), any(10)); break;
                case 3: league.sell(1 + any(9)); break;
                case 4: league.promote(any(chairs)); break;
                case 5: league.seat(any(chairs), any(musicians)); break;
                default: league.rise(any(musicians)); break;
            }
        }
    }

    /** Looks at all chairs and musicians once: a league answers 512 calls, and no more. */
    private static void look() {
        fit = new int[chairs][musicians];
        maySit = new boolean[chairs][musicians];
        comfort = new int[chairs];
        sitter = new int[chairs];
        for (int chair = 0; chair < chairs; chair++) {
            comfort[chair] = league.chairOf(chair, 2) + 3 * league.chairOf(chair, 4);
            sitter[chair] = league.chairOf(chair, 7);
            int section = league.chairOf(chair, 0);
            int need = league.chairOf(chair, 1);
            int stand = league.chairOf(chair, 3);
            for (int musician = 0; musician < musicians; musician++) {
                int skill = league.musicianOf(musician, 1);
                boolean isOwn = league.musicianOf(musician, 0) == section;
                int apart = Math.max(need - skill, skill - need);
                fit[chair][musician] = 9 - apart + (isOwn ? 4 : 0);
                maySit[chair][musician] = stand > 0 && fit[chair][musician] >= 6
                        && comfort[chair] >= league.musicianOf(musician, 2);
            }
        }
    }

    private static void askHowManyAreRestless() {
        check.due("restless()", league.restless(), restlessPairs());
    }

    private static void askForTheOnlyWay() {
        ways = 0;
        seatFrom(0, 0);
        check.due("ways in which nobody is restless", ways, 1);
        int sitting = 0;
        for (int chair = 0; chair < chairs; chair++) {
            check.due("would(" + chair + ")", league.would(chair), onlySitter[chair]);
            check.due("wouldAgain(" + chair + ")", league.wouldAgain(chair), onlySitter[chair]);
            sitting += onlySitter[chair] == ChairLeague.NOTHING ? 0 : 1;
        }
        check.due("season()", league.season(), sitting);
        for (int chair = 0; chair < chairs; chair++) {
            check.due("chairOf(" + chair + ", 7)", league.chairOf(chair, 7), onlySitter[chair]);
        }
        check.due("restless() after the season", league.restless(), 0);
    }

    /** Tries each who may sit on the chair and on those behind it; bit k of used is musician k. */
    private static void seatFrom(int chair, int used) {
        if (chair == chairs) {
            if (restlessPairs() == 0) {
                ways++;
                onlySitter = sitter.clone();
            }
            return;
        }
        for (int musician = 0; musician < musicians; musician++) {
            if ((used >> musician & 1) == 0 && maySit[chair][musician]) {
                sitter[chair] = musician;
                seatFrom(chair + 1, used | 1 << musician);
            }
        }
        sitter[chair] = ChairLeague.NOTHING;
        seatFrom(chair + 1, used);
    }

    private static int restlessPairs() {
        int pairs = 0;
        for (int chair = 0; chair < chairs; chair++) {
            for (int musician = 0; musician < musicians; musician++) {
                if (maySit[chair][musician] && wouldTake(chair, musician)
                        && wouldMove(musician, chair)) {
                    pairs++;
                }
            }
        }
        return pairs;
    }

    private static boolean wouldTake(int chair, int musician) {
        int has = sitter[chair];
        if (has == ChairLeague.NOTHING) {
            return true;
        }
        int more = fit[chair][musician] - fit[chair][has];
        return more > 0 || more == 0 && musician < has;
    }

    private static boolean wouldMove(int musician, int chair) {
        for (int place = 0; place < chairs; place++) {
            if (sitter[place] == musician) {
                int more = comfort[chair] - comfort[place];
                return more > 0 || more == 0 && chair < place;
            }
        }
        return true;
    }
}
