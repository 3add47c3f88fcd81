import java.util.ArrayList;
import java.util.List;
import java.util.Set;
import java.util.TreeSet;

/**
 * Every number that a call is given, beyond its range: too small, too large, and far off, where an
 * int, or less than one, wraps around. A call that answers such a number leaves all as it was.
 */
public final class RangesTest {
    private static final int NONE = ChairLeague.NONE;
    private static final int BAD = ChairLeague.BAD;
    // A league is asked no more than 512 times.
    private static final int AT_ONCE = 50;
    private static final Check check = new Check("RangesTest");

    /** A call with one of its numbers left open. */
    private interface Open {
        int of(ChairLeague x, int number);
    }

    public static void main(String[] args) {
        all().finish();
    }

    static Check all() {
        String three = "h05;h15;h25;m050;m150;s0:0;b0=3;p1";
        chairs(three, 3, 2);
        chairs("h05;h05;h05;h05;h05;h05;h05;h05;h05;h05 m050;m050;m050;s0:0;s1:1", 10, 3);
        chairs("m050", 0, 1);
        chairs("h05", 1, 0);
        levels(three);
        whats(three);
        lines(three);
        texts(three);
        return check;
    }

    /** Numbers of chairs and musicians, of which so many are there. */
    private static void chairs(String before, int chairs, int musicians) {
        int c = chairs - 1;
        int m = musicians - 1;
        range("chairOf, chair", before, 0, c, NONE, (x, k) -> x.chairOf(k, 0));
        range("chairOf, chair, 7", before, 0, c, NONE, (x, k) -> x.chairOf(k, 7));
        range("musicianOf, musician", before, 0, m, NONE, (x, k) -> x.musicianOf(k, 0));
        range("musicianOf, musician, 5", before, 0, m, NONE, (x, k) -> x.musicianOf(k, 5));
        if (musicians > 0) {
            range("fit, chair", before, 0, c, NONE, (x, k) -> x.fit(k, 0));
            range("seat, chair", before, 0, c, NONE, (x, k) -> x.seat(k, musicians - 1));
            range("bid, coins", before, 0, 99, BAD, (x, k) -> x.bid(0, k));
        }
        if (chairs > 0) {
            range("fit, musician", before, 0, m, NONE, (x, k) -> x.fit(0, k));
            range("seat, musician", before, 0, m, NONE, (x, k) -> x.seat(chairs - 1, k));
        }
        range("rise", before, 0, m, NONE, (x, k) -> x.rise(k));
        range("would", before, 0, c, NONE, (x, k) -> x.would(k));
        range("wouldAgain", before, 0, c, NONE, (x, k) -> x.wouldAgain(k));
        range("bid, musician", before, 0, m, NONE, (x, k) -> x.bid(k, 0));
        range("bid, musician, 100", before, 0, m, NONE, (x, k) -> x.bid(k, 100));
        range("raise", before, 0, c, NONE, (x, k) -> x.raise(k));
        range("promote", before, 0, c, NONE, (x, k) -> x.promote(k));
        range("ranked", before, 0, c, NONE, (x, k) -> x.ranked(k));
        range("richest", before, 0, m, NONE, (x, k) -> x.richest(k));
        range("tell", before, 0, c, NONE, (x, k) -> x.tell(k));
    }

    /** Sections, needs, skills, demands, cushions, weights and tiers. */
    private static void levels(String before) {
        range("chair, section", before, 0, 3, BAD, (x, k) -> x.chair(k, 5));
        range("chair, need", before, 1, 9, BAD, (x, k) -> x.chair(0, k));
        range("musician, section", before, 0, 3, BAD, (x, k) -> x.musician(k, 5, 0));
        range("musician, skill", before, 1, 9, BAD, (x, k) -> x.musician(0, k, 0));
        range("musician, demand", before, 0, 9, BAD, (x, k) -> x.musician(0, 5, k));
        range("sell", before, 1, 9, BAD, (x, k) -> x.sell(k));
        range("concert", before, 1, 4, BAD, (x, k) -> x.concert(k));
        range("lasts", before, 1, 4, BAD, (x, k) -> x.lasts(k));
        range("hall", before, 0, 2, BAD, (x, k) -> x.hall(k));
        String nobody = "h05";
        range("sell to nobody", nobody, 1, 9, BAD, (x, k) -> x.sell(k));
        range("concert of nobody", nobody, 1, 4, BAD, (x, k) -> x.concert(k));
        range("lasts without anybody", nobody, 1, 4, BAD, (x, k) -> x.lasts(k));
        String full = "m050;m050;m050;m050;m050;m050;m050;m050;m050;m050";
        range("musician, full", full, 0, 3, BAD, (x, k) -> x.musician(k, 5, 0));
        range("musician, full", full, 1, 9, BAD, (x, k) -> x.musician(0, k, 0));
        range("musician, full", full, 0, 9, BAD, (x, k) -> x.musician(0, 5, k));
        String chairs = "h05;h05;h05;h05;h05;h05;h05;h05;h05;h05";
        range("chair, full", chairs, 0, 3, BAD, (x, k) -> x.chair(k, 5));
        range("chair, full", chairs, 1, 9, BAD, (x, k) -> x.chair(0, k));
        range("hall of ten", chairs, 0, 2, BAD, (x, k) -> x.hall(k));
    }

    private static void whats(String before) {
        range("chairOf, what", before, 0, 7, BAD, (x, k) -> x.chairOf(0, k));
        range("musicianOf, what", before, 0, 6, BAD, (x, k) -> x.musicianOf(0, k));
        range("reason", before, 0, 2, BAD, (x, k) -> x.reason(k, false));
        range("reason, detail", before, 0, 2, BAD, (x, k) -> x.reason(k, true));
        range("account", before, 0, 13, BAD, (x, k) -> x.account(k));
    }

    private static void lines(String before) {
        // The line is "0$12!3 .$8".
        range("character", before, 0, 9, NONE, (x, k) -> x.character(k));
        range("character of none", "h05", 0, -1, NONE, (x, k) -> x.character(k));
    }

    private static void texts(String before) {
        range("append", before, 32, 126, BAD, (x, k) -> x.append(k));
        range("append, full", before + " " + "~".repeat(60), 32, 126, BAD, (x, k) -> x.append(k));
    }

    /** A league that has carried out some texts, and has been told some that begin with "~". */
    private static ChairLeague league(String before) {
        ChairLeague x = new ChairLeague();
        for (String text : before.split(" ")) {
            Check.type(x, text);
            if (text.charAt(0) != '~') {
                check.due(text, x.run(), text.split(";").length);
            }
        }
        x.tellMusicians();
        return x;
    }

    private static void range(String call, String before, int least, int most, int code,
            Open made) {
        check.part(call + " after '" + before + "'");
        for (int number = least; number <= most; number++) {
            int answer = made.of(league(before), number);
            check.due("" + number + " is in range", answer == code ? 1 : 0, 0);
        }
        List<Integer> numbers = new ArrayList<>(beyond(least, most));
        for (int from = 0; from < numbers.size(); from += AT_ONCE) {
            int to = Math.min(from + AT_ONCE, numbers.size());
            range(league(before), numbers.subList(from, to), code, made);
        }
    }

    private static void range(ChairLeague x, List<Integer> numbers, int code, Open made) {
        List<Number> whole = Check.wholeOf(x);
        for (int number : numbers) {
            check.due("" + number, made.of(x, number), code);
        }
        check.due("all is as it was", whole.equals(Check.wholeOf(x)) ? 1 : 0, 1);
        check.reasons("no reason", x);
    }

    /** Numbers beside a range, and those that look as if they were in it, if they are cut. */
    private static Set<Integer> beyond(int least, int most) {
        List<Integer> numbers = new ArrayList<>();
        for (int number = least - 40; number <= most + 40; number++) {
            numbers.add(number);
        }
        for (int number = least - 1; number <= most + 1; number++) {
            for (int bits = 5; bits < 32; bits++) {
                numbers.add(number + (1 << bits));
                numbers.add(number - (1 << bits));
                numbers.add(number ^ -1 << bits);
            }
        }
        for (int k = 0; k < 16; k++) {
            numbers.add(Integer.MIN_VALUE + k);
            numbers.add(Integer.MAX_VALUE - k);
            numbers.add(-1011 - k);
            numbers.add(-2000 - k);
        }
        Set<Integer> beyond = new TreeSet<>(numbers);
        beyond.removeIf(number -> number >= least && number <= most);
        return beyond;
    }
}
