import java.util.List;

/** Long runs of calls, which the program and the PlainLeague must answer alike. */
public final class PlainLeagueTest {
    private static final int RUNS = 4800;
    private static final int CALLS = 512;
    private static final Check check = new Check("PlainLeagueTest");
    // Thirty orders and the ";" behind each take five characters at most, "s0:0;", and then run.
    private static final int MOST_CALLS_AT_ONCE = 30 * 5 + 1;
    private static long seed;
    private static int calls;

    public static void main(String[] args) {
        for (int run = 0; run < RUNS; run++) {
            seed = 7919L * run + 17;
            check.part("run " + run);
            run(run % 4);
        }
        check.finish();
    }

    // A generator of its own, so that each run is the same everywhere.
    private static int any(int below) {
        seed = seed * 6364136223846793005L + 1442695040888963407L;
        return (int) ((seed >>> 33) % below);
    }

    private static int anyOf(int... numbers) {
        return numbers[any(numbers.length)];
    }

    /** Mostly a number within the range, now and then one beside it or far off. */
    private static int near(int least, int most) {
        if (any(40) == 0) {
            return anyOf(least - 1, most + 1, Integer.MIN_VALUE, Integer.MAX_VALUE, -1011, 1 << 20);
        }
        return least + any(most - least + 1);
    }

    private static void run(int kind) {
        ChairLeague x = new ChairLeague();
        PlainLeague y = new PlainLeague();
        int sections = kind == 0 ? 4 : 2;
        int begin = kind == 3 ? 20 : any(12);
        for (int k = 0; k < begin; k++) {
            int section = any(sections);
            int level = 1 + any(9);
            int demand = any(3) == 0 ? any(10) : 0;
            if (k % 2 == 0) {
                check.due("chair", x.chair(section, level), y.chair(section, level));
            } else {
                check.due("musician", x.musician(section, level, demand),
                        y.musician(section, level, demand));
            }
        }
        calls = begin;
        while (calls < CALLS) {
            if (any(3) > 0) {
                change(x, y, kind);
            } else {
                ask(x, y);
            }
        }
    }

    private static void change(ChairLeague x, PlainLeague y, int kind) {
        int a = near(0, 9);
        int b = near(0, 9);
        int w = any(3) == 0 ? near(1, 4) : kind == 2 ? 1 : 1 + any(2);
        switch (any(kind == 1 ? 22 : 20)) {
            case 0: {
                int s = near(0, 3);
                int n = near(1, 9);
                due("chair", s, n, x.chair(s, n), y.chair(s, n));
                break;
            }
            case 1: {
                int s = near(0, 3);
                int k = near(1, 9);
                due("musician", s, k, x.musician(s, k, b), y.musician(s, k, b));
                break;
            }
            case 2:
            case 3:
            case 4:
                due("seat", a, b, x.seat(a, b), y.seat(a, b));
                break;
            case 5:
                due("rise", a, 0, x.rise(a), y.rise(a));
                break;
            case 6:
            case 7:
                due("season", 0, 0, x.season(), y.season());
                if (calls < CALLS) {
                    due("restless after it", 0, 0, x.restless(), 0);
                }
                break;
            case 8:
            case 9:
            case 10: {
                int coins = any(2) == 0 ? near(0, 99) : near(0, 12);
                due("bid", a, coins, x.bid(a, coins), y.bid(a, coins));
                break;
            }
            case 11: {
                int c = near(1, 9);
                due("sell", c, 0, x.sell(c), y.sell(c));
                break;
            }
            case 12:
            case 13:
            case 14:
                due("concert", w, 0, x.concert(w), y.concert(w));
                break;
            case 15:
                due("raise", a, 0, x.raise(a), y.raise(a));
                break;
            case 16:
                due("promote", a, 0, x.promote(a), y.promote(a));
                break;
            case 17:
            case 18:
                text(x, y);
                break;
            case 19:
                due("undo", 0, 0, x.undo(), y.undo());
                break;
            case 20:
                due("save", 0, 0, x.save(), y.save());
                break;
            default:
                if (any(5) == 0) {
                    due("restore", 0, 0, x.restore(), y.restore());
                }
                break;
        }
    }

    private static void ask(ChairLeague x, PlainLeague y) {
        int a = near(0, 9);
        int b = near(0, 9);
        switch (any(19)) {
            case 0: {
                int what = near(0, 7);
                due("chairOf", a, what, x.chairOf(a, what), y.chairOf(a, what));
                break;
            }
            case 1: {
                int what = near(0, 6);
                due("musicianOf", a, what, x.musicianOf(a, what), y.musicianOf(a, what));
                break;
            }
            case 2: due("fit", a, b, x.fit(a, b), y.fit(a, b)); break;
            case 3: due("would", a, 0, x.would(a), y.would(a)); break;
            case 4: due("wouldAgain", a, 0, x.wouldAgain(a), y.would(a)); break;
            case 5: due("restless", 0, 0, x.restless(), y.restless()); break;
            case 6: {
                int weight = near(1, 4);
                due("lasts", weight, 0, x.lasts(weight), y.lasts(weight));
                break;
            }
            case 7: {
                int tier = near(0, 2);
                due("hall", tier, 0, x.hall(tier), y.hall(tier));
                break;
            }
            case 8: due("ranked", a, 0, x.ranked(a), y.ranked(a)); break;
            case 9: due("richest", a, 0, x.richest(a), y.richest(a)); break;
            case 10: due("tell", a, 0, x.tell(a), y.tell(a)); break;
            case 11: due("tellMusicians", 0, 0, x.tellMusicians(), y.tellMusicians()); break;
            case 12:
            case 13: {
                int index = any(2) == 0 ? near(0, 79) : near(0, 9);
                due("character", index, 0, x.character(index), y.character(index));
                break;
            }
            case 14: {
                int depth = near(0, 2);
                boolean isDetail = any(2) == 0;
                due("reason", depth, isDetail ? 1 : 0, x.reason(depth, isDetail),
                        y.reason(depth, isDetail));
                break;
            }
            case 15: {
                int what = near(0, 13);
                due("account", what, 0, x.account(what), y.account(what));
                break;
            }
            case 16: due("isBalanced", 0, 0, x.isBalanced(), 1); break;
            case 17: dueDouble("meanFit", x.meanFit(), y.meanFit()); break;
            default: dueDouble("fallenShare", x.fallenShare(), y.fallenShare()); break;
        }
    }

    private static void text(ChairLeague x, PlainLeague y) {
        if (calls + MOST_CALLS_AT_ONCE > CALLS) {
            due("run", 0, 0, x.run(), y.run());
            return;
        }
        StringBuilder text = new StringBuilder();
        int orders = any(12) == 0 ? 1 + any(30) : 1 + any(5);
        for (int k = 0; k < orders; k++) {
            text.append(k == 0 ? "" : ";").append(order(orders > 8));
        }
        if (any(8) == 0) {
            int place = any(text.length());
            text.setCharAt(place, (char) anyOf(';', ':', '=', '0', '9', 'a', 'b', 'm', ' ', '~'));
        } else if (any(12) == 0) {
            text.setLength(any(text.length()));
        }
        for (int k = 0; k < text.length(); k++) {
            int code = text.charAt(k);
            due("append", code, 0, x.append(code), y.append(code));
        }
        if (any(10) > 0) {
            due("run " + text, 0, 0, x.run(), y.run());
        }
    }

    private static String order(boolean isMild) {
        int digit = any(10);
        if (isMild) {
            return List.of("a", "a", "a", "p1", "a", "s0:0").get(any(6));
        }
        switch (any(10)) {
            case 0: return "h" + any(4) + digit;
            case 1: return "m" + any(4) + digit + any(10);
            case 2: return "s" + digit + ":" + any(10);
            case 3: return "r" + digit;
            case 4: return "a";
            case 5: return "b" + digit + "=" + (any(2) == 0 ? "" + any(10) : "" + any(2) + any(10));
            case 6: return "c" + digit;
            case 7: return "p" + any(6);
            case 8: return "u" + digit;
            default: return "t" + digit;
        }
    }

    private static void dueDouble(String call, double got, double want) {
        calls++;
        check.dueDouble(call, got, want);
    }

    private static void due(String call, int a, int b, int got, int want) {
        calls++;
        check.due(call + "(" + a + ", " + b + ")", got, want);
    }
}
