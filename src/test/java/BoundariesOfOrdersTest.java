import java.util.List;

/**
 * Each sentence of 'Terms' that names a boundary case, from texts to codes and 'In doubt', with a
 * test of its own. The sentences ahead of those are in BoundariesOfTermsTest.
 */
public final class BoundariesOfOrdersTest {
    private static final int NONE = ChairLeague.NONE;
    private static final int BAD = ChairLeague.BAD;
    private static final int FULL = ChairLeague.FULL;
    private static final int REFUSED = ChairLeague.REFUSED;
    private static final int NOTHING = ChairLeague.NOTHING;
    private static final String NINE_CHAIRS = "h05;h05;h05;h05;h05;h05;h05;h05;h05";
    private static final String NINE_MUSICIANS = "m050;m050;m050;m050;m050;m050;m050;m050;m050";
    private static final Check check = new Check("BoundariesOfOrdersTest");

    public static void main(String[] args) {
        all().finish();
    }

    static Check all() {
        texts();
        letters();
        faultPositions();
        allOrNone();
        reasonOrder();
        seatReasons();
        otherReasons();
        orderReasons();
        changes();
        eightChanges();
        codes();
        codeOrder();
        notUndone();
        askingDoubts();
        otherDoubts();
        rangesOfOrders();
        constants();
        return check;
    }

    private static void sentence(String text) {
        check.sentence("Terms", text);
    }

    private static void dueFault(String text, int position) {
        check.due("'" + text + "'", Check.run(new ChairLeague(), text), -2000 - position);
    }

    private static void dueOrders(String before, String text, int orders) {
        check.due("'" + text + "'", Check.run(Check.league(before), text), orders);
    }

    private static void texts() {
        sentence("A text has one or more orders with \";\" between them:");
        dueFault("", 0);
        dueFault(";", 0);
        dueFault("a;", 2);
        dueFault(";a", 0);
        dueFault("a;;a", 2);
        dueFault("aa", 1);
        dueFault("a:a", 1);
        dueOrders("a", "a", 1);
        dueOrders("a", "a;a", 2);
        dueOrders("a", "a;a;a", 3);
        // Thirty have room in 59 characters.
        String most = "a;".repeat(29);
        dueOrders("a", most + "a", 30);
        dueFault(most + "a;", 60);

        sentence("Coins have one or two digits, all else one.");
        String three = "h05;m050;a";
        dueOrders(three, "b0=1", 1);
        dueOrders(three, "b0=08", 1);
        dueOrders(three, "b0=00", 1);
        dueFault("b0=", 3);
        dueFault("b0=;", 3);
        dueFault("b0=123", 5);
        dueFault("b00=1", 2);
        dueFault("h055", 3);
        dueFault("h0", 2);
        dueFault("m0500", 4);
        dueFault("m05", 3);
        dueFault("s00:0", 2);
        dueFault("s0:00", 4);
        dueFault("s0:", 3);
        dueFault("r00", 2);
        dueFault("c55", 2);
        dueFault("p11", 2);
        dueFault("u00", 2);
        dueFault("t00", 2);
        dueFault("a0", 1);
        ChairLeague x = Check.league("h05;m050;a;p1;p1", "b0=9");
        check.due("9", x.musicianOf(0, 4), 9);
        Check.run(x, "b0=16");
        check.due("16", x.musicianOf(0, 4), 16);
        Check.run(x, "b0=03");
        check.due("03", x.musicianOf(0, 4), 3);
    }

    private static void letters() {
        sentence("\"h\", a section and a need brings a chair; \"m\", a section, a skill and a "
                + "demand a musician; \"s\", a chair, \":\" and a musician seats one; \"r\" and a "
                + "musician lets one rise; \"a\" begins a season; \"b\", a musician, \"=\" and "
                + "coins bids; \"c\" and a cushion sells one; \"p\" and a weight gives a concert; "
                + "\"u\" and a chair puts its stand up; and \"t\" and a chair lets it come into the "
                + "next tier.");
        // The highest of each number that an order can have.
        ChairLeague x = Check.league(NINE_CHAIRS + ";h39", NINE_MUSICIANS + ";m399");
        check.due("h: section 3", x.chairOf(9, 0), 3);
        check.due("h: need 9", x.chairOf(9, 1), 9);
        check.due("m: section 3", x.musicianOf(9, 0), 3);
        check.due("m: skill 9", x.musicianOf(9, 1), 9);
        check.due("m: demand 9", x.musicianOf(9, 2), 9);
        x = Check.league(NINE_CHAIRS + ";h05", NINE_MUSICIANS + ";m050", "s9:9");
        check.due("s: chair 9, musician 9", x.musicianOf(9, 5), 9);
        check.due("b", Check.run(x, "b9=8"), 1);
        check.due("b: musician 9", x.musicianOf(9, 4), 8);
        check.due("c", Check.run(x, "c9"), 1);
        check.due("c: cushion 9", x.chairOf(9, 2), 9);
        check.due("p", Check.run(x, "p4;p4"), 2);
        check.due("p: weight 4", x.chairOf(9, 3), 1);
        check.due("u", Check.run(x, "u9"), 1);
        check.due("u: chair 9", x.chairOf(9, 3), 3);
        check.due("t", Check.run(x, "t9"), 1);
        check.due("t: chair 9", x.chairOf(9, 4), 1);
        check.due("r", Check.run(x, "r9"), 1);
        check.due("r: musician 9", x.musicianOf(9, 5), NOTHING);
        check.due("a", Check.run(x, "a"), 1);
        check.due("a: all sit", x.account(2), 10);
        for (char letter = ' '; letter <= '~'; letter++) {
            if ("hmsrabcput".indexOf(letter) < 0) {
                dueFault(letter + "000", 0);
            }
        }
    }

    private static void faultPositions() {
        sentence("The fault position of a text is the index of its first character with which no "
                + "such text can continue, or its length if it ends too early.");
        dueFault("", 0);
        dueFault("x", 0);
        dueFault("h", 1);
        dueFault("hx", 1);
        dueFault("h0x", 2);
        dueFault("h05x", 3);
        dueFault("h05;", 4);
        dueFault("h05;x", 4);
        dueFault("b0=1x", 4);
        dueFault("b0=12x", 5);
        dueFault("x;x", 0);
        dueFault("a;h0;x", 4);
        // The digits' neighbours, and the last of 60 characters.
        dueFault("h/5", 1);
        dueFault("h:5", 1);
        dueFault("h0/", 2);
        dueFault("h0:", 2);
        dueFault("b0=/", 3);
        dueFault("b0=::", 3);
        dueFault("b0=1/", 4);
        dueFault("b0=1:", 4);
        dueFault("a;".repeat(29) + "ax", 59);
        dueFault("a;".repeat(29) + "h0", 60);
        dueFault("a;".repeat(28) + "b0=x", 59);
    }

    private static void allOrNone() {
        sentence("The orders are carried out one after the other, all or none.");
        ChairLeague x = new ChairLeague();
        check.due("each sees those ahead", Check.run(x, "h05;m050;s0:0;b0=8;p1;p1;t0;r0"), 8);
        check.due("the tier", x.chairOf(0, 4), 1);
        List<Number> all = Check.wholeOf(x);
        check.due("the last is refused", Check.run(x, "h05;m050;a;p4;u0;b0=9;c5;t0;r0;r0"), REFUSED);
        check.due("none", all.equals(Check.wholeOf(x)) ? 1 : 0, 1);
        check.due("the last is faulty", Check.run(x, "h05;m050;a;p4;u0;b0=9;c5;t0;r0;r"), -2032);
        check.due("none", all.equals(Check.wholeOf(x)) ? 1 : 0, 1);
        check.due("the first is refused", Check.run(x, "r0;a"), REFUSED);
        check.due("none", all.equals(Check.wholeOf(x)) ? 1 : 0, 1);
    }

    private static void reasonOrder() {
        sentence("Something is refused for the first of the reasons that its method names, in the "
                + "order in which it names them, with a detail:");
        // A bid of one who does not sit and has too few coins; a stand that is up and no coins.
        ChairLeague x = Check.league("h05;m040;m050;s0:0;p1;u0;p1;u0;p1;u0;p1;u0;p1;u0");
        check.refused("8 ahead of 9", x, x.bid(1, 99), 8, 1);
        check.refused("12 ahead of 9", x, x.raise(0), 12, 3);
        // In the tier 2 and short of 60 marks.
        ChairLeague y = Check.league("h05;m050;a;p1;p1;p1;p1;t0;t0");
        check.refused("13 ahead of 14", y, y.promote(0), 13, 52);
        x = Check.league("h05;h15;m040;m391;a;p3");
        check.refused("3 ahead of 6 and 7", x, x.seat(0, 1), 2, 1, 3, 1);
        x = Check.league("h05;h15;m040;m140;a;p2;u1;p1");
        check.refused("3 ahead of 5", x, x.seat(0, 1), 2, 1, 3, 1);
        x = Check.league("h05;h39;h35;m050;m059;s0:0");
        check.refused("4 ahead of 5", x, x.seat(0, 0), 2, 0, 4, 0);
        check.refused("4 ahead of 7", x, x.seat(0, 1), 2, 1, 4, 0);
        check.refused("5 ahead of 6", x, x.seat(1, 0), 2, 0, 5, 0);
        check.refused("6 ahead of 7", x, x.seat(1, 1), 2, 1, 6, 5);
        check.refused("7", x, x.seat(2, 1), 2, 1, 7, 0);
    }

    private static void seatReasons() {
        sentence("1, there are 10 chairs, or 10 musicians: this number");
        ChairLeague x = Check.league(NINE_CHAIRS);
        check.due("the tenth", x.chair(0, 5), 9);
        check.refused("an eleventh", x, x.chair(0, 5), 1, 10);
        x = Check.league(NINE_MUSICIANS);
        check.due("the tenth", x.musician(0, 5, 0), 9);
        check.refused("an eleventh", x, x.musician(0, 5, 0), 1, 10);
        check.due("a chair", x.chair(0, 5), 0);

        sentence("2, the musician cannot be seated: the musician");
        x = Check.league(NINE_MUSICIANS, "m051;h05");
        check.refused("musician 9", x, x.seat(0, 9), 2, 9, 7, 0);
        x = Check.league("h05;m050;m190");
        check.refused("musician 1", x, x.seat(0, 1), 2, 1, 6, 5);
        Check.run(x, "s0:0");
        check.refused("musician 0", x, x.seat(0, 0), 2, 0, 4, 0);

        sentence("behind it stands 3, the chair has fallen: how many have");
        x = Check.league("h09;h09;m080;m080;s0:0;p3");
        check.refused("one has", x, x.seat(0, 1), 2, 1, 3, 1);
        Check.run(x, "s1:1;p3");
        check.refused("two have", x, x.seat(0, 1), 2, 1, 3, 2);
        x = Check.league("h09;m080;a;p2;r0");
        check.due("a stand of 1", x.seat(0, 0), 1);

        sentence("or 4, the chair has a musician: this one");
        x = Check.league("h05;h05;m050;m050;m050;s1:2;s0:0");
        check.refused("musician 2", x, x.seat(1, 1), 2, 1, 4, 2);
        check.refused("musician 0", x, x.seat(0, 1), 2, 1, 4, 0);

        sentence("or 5, the musician sits: on which chair");
        x = Check.league("h05;h05;h05;m050;m050;s2:1;s0:0");
        check.refused("chair 2", x, x.seat(1, 1), 2, 1, 5, 2);
        check.refused("chair 0", x, x.seat(1, 0), 2, 0, 5, 0);

        sentence("or 6, the chair does not want the musician: the fit");
        x = Check.league("h05;h01;m190;m290;m180");
        check.refused("5", x, x.seat(0, 0), 2, 0, 6, 5);
        check.refused("the least", x, x.seat(1, 1), 2, 1, 6, 1);
        check.due("6", x.seat(0, 2), 1);

        sentence("or 7, the musician does not bear the chair: its comfort");
        x = Check.league("h05;m050;m051;m057;m056");
        check.refused("0", x, x.seat(0, 1), 2, 1, 7, 0);
        Check.run(x, "a;b0=1;c3;p1;p1;t0;r0");
        check.refused("6", x, x.seat(0, 2), 2, 2, 7, 6);
        check.due("borne", x.seat(0, 3), 1);
    }

    private static void otherReasons() {
        sentence("8, the musician does not sit: how many do");
        ChairLeague x = Check.league("h05;h15;m050;m150;m250");
        check.refused("none", x, x.rise(0), 8, 0);
        Check.run(x, "a");
        check.refused("two", x, x.rise(2), 8, 2);
        check.refused("two", x, x.bid(2, 0), 8, 2);

        sentence("9, there are too few coins: how many");
        x = Check.league("h05;m040;a;b0=3");
        check.refused("9 are not", x, x.bid(0, 9), 9, 8);
        check.due("8 are enough", x.bid(0, 8), 3);
        check.refused("99 are not", x, x.bid(0, 99), 9, 8);
        Check.run(x, "p1;u0;p1;u0;p1;u0;p1;u0;p1");
        check.due("2 are enough", x.raise(0), 0);
        x.concert(1);
        check.refused("0 are not", x, x.raise(0), 9, 0);
        x = Check.league("h05;h05;m040;m040;a;b0=2;b1=1;c1", "p1;u0;u1;p1;u0;u1;p1;u0;p1");
        check.refused("1 is not", x, x.raise(0), 9, 1);

        sentence("10, nobody bids more than 0: how many sit");
        x = Check.league("h05;h15;m050;m150;m250");
        check.refused("none", x, x.sell(1), 10, 0);
        Check.run(x, "a;b0=0;b1=0");
        check.refused("two", x, x.sell(1), 10, 2);
        Check.run(x, "b1=1");
        check.due("1 is enough", x.sell(1), 0);

        sentence("11, nobody sits: how many musicians there are");
        x = Check.league("h05");
        check.refused("none", x, x.concert(1), 11, 0);
        Check.run(x, "m050;m050");
        check.refused("two", x, x.concert(1), 11, 2);
        Check.run(x, "s0:1");
        check.due("one sits", x.concert(1), 13);

        sentence("12, the stand is not to be put up: the stand");
        x = Check.league("h05;m040;a");
        check.refused("3", x, x.raise(0), 12, 3);
        Check.run(x, "p1");
        check.due("2", x.raise(0), 8);

        sentence("13, the chair is in the tier 2: its marks");
        x = Check.league("h05;m080;a;p1;p1;p1;p1;t0");
        check.due("the tier 1", x.promote(0), 2);
        check.refused("the tier 2", x, x.promote(0), 13, 40);
        Check.run(x, "p1;p1");
        check.refused("the tier 2", x, x.promote(0), 13, 60);

        sentence("14, it has too few marks: how many are lacking");
        x = Check.league("h05;m080");
        check.refused("none", x, x.promote(0), 14, 20);
        Check.run(x, "a;p1");
        check.refused("10", x, x.promote(0), 14, 10);
        Check.run(x, "p1;t0");
        check.refused("20 of 40", x, x.promote(0), 14, 20);
        x = Check.league("h05;m050;m180;s0:0;p1;r0;s0:1;p1");
        check.refused("1 of 20", x, x.promote(0), 14, 1);
    }

    private static void orderReasons() {
        sentence("15, an order cannot be carried out: its number, from 0.");
        ChairLeague x = new ChairLeague();
        check.refused("the first", x, Check.run(x, "r0;a"), 15, 0);
        check.refused("the second", x, Check.run(x, "a;r0"), 15, 1);
        check.refused("the first of two", x, Check.run(x, "a;r0;r0"), 15, 1);
        check.refused("the last of 29", x, Check.run(x, "a;".repeat(28) + "r0"), 15, 28);
        // Thirty orders have 59 characters if all but one are "a"; the last has two then.
        check.refused("the last of 30", x, Check.run(x, "a;".repeat(29) + "r0"), 15, 29);

        sentence("Behind 15 stands the reason for which the order was refused, with what stands "
                + "behind that, or none if it had another code.");
        x = Check.league("h05;m051");
        check.refused("two behind", x, Check.run(x, "s0:0"), 15, 0, 2, 0, 7, 0);
        check.refused("one behind", x, Check.run(x, "a;r0"), 15, 1, 8, 0);
        check.refused("NONE", x, Check.run(x, "a;a;r1"), 15, 2);
        check.refused("two behind", x, Check.run(x, "a;s0:0"), 15, 1, 2, 0, 7, 0);
        check.refused("BAD", x, Check.run(x, "p5"), 15, 0);
        x = Check.league("h05;h05;m051;m190");
        check.refused("each with its detail", x, Check.run(x, "a;a;s1:1"), 15, 2, 2, 1, 6, 5);
        x = Check.league("h05;m051");
        // The details are those of the orders ahead, though these are taken back.
        check.refused("as it was then", x, Check.run(x, "h15;m150;s1:1;s0:0;r0"),
                15, 3, 2, 0, 7, 0);
        check.refused("as it was then", x, Check.run(x, "m050;s0:1;r0"), 15, 2, 8, 1);
    }

    private static void dueChange(String call, String before, Check.Call change) {
        ChairLeague x = Check.league(before);
        List<Number> all = Check.allOf(x);
        check.due(call + " succeeds", change.of(x) >= 0 ? 1 : 0, 1);
        check.due(call + " is a change", x.account(13), 2);
        check.due(call + " is undone", x.undo(), 1);
        check.due(call + " is undone", all.equals(Check.allOf(x)) ? 1 : 0, 1);
    }

    private static void dueNoChange(String call, ChairLeague x, boolean isCode, Check.Call change) {
        int changes = x.account(13);
        check.due(call + " answers a code", change.of(x) < 0 ? 1 : 0, isCode ? 1 : 0);
        check.due(call + " is no change", x.account(13), changes);
    }

    private static void changes() {
        sentence("The changes are the successful calls of chair, musician, seat, rise, season, bid, "
                + "sell, concert, raise, promote and run, also those by which nothing is "
                + "different.");
        String before = "h05;h05;m040;m050;s0:0;b0=1;p1;p1";
        dueChange("chair", before, x -> x.chair(0, 5));
        dueChange("musician", before, x -> x.musician(0, 5, 0));
        dueChange("seat", before, x -> x.seat(1, 1));
        dueChange("rise", before, x -> x.rise(0));
        dueChange("season", before, x -> x.season());
        dueChange("bid", before, x -> x.bid(0, 2));
        dueChange("the same bid", before, x -> x.bid(0, 1));
        dueChange("sell", before, x -> x.sell(3));
        dueChange("concert", before, x -> x.concert(1));
        dueChange("raise", before, x -> x.raise(0));
        dueChange("promote", before, x -> x.promote(0));
        dueChange("run", before, x -> Check.run(x, "a;h05;p1"));
        dueChange("the same bid by run", before, x -> Check.run(x, "b0=1"));
        dueChange("a season of nobody", "h05", x -> x.season());
        dueChange("all as it was by run", before, x -> Check.run(x, "b0=2;b0=1"));
        ChairLeague x = Check.league(before);
        dueNoChange("a refused chair", x, true, y -> y.chair(0, 0));
        dueNoChange("a refused musician", x, true, y -> y.musician(0, 0, 0));
        dueNoChange("a refused seat", x, true, y -> y.seat(0, 0));
        dueNoChange("a refused rise", x, true, y -> y.rise(1));
        dueNoChange("a refused bid", x, true, y -> y.bid(1, 1));
        dueNoChange("a refused sale", x, true, y -> y.sell(0));
        dueNoChange("a refused concert", x, true, y -> y.concert(5));
        dueNoChange("a refused raise", x, true, y -> y.raise(1));
        dueNoChange("a refused promote", x, true, y -> y.promote(1));
        dueNoChange("a refused text", x, true, y -> Check.run(y, "a;r2"));
        dueNoChange("a faulty text", x, true, y -> Check.run(y, "a;"));
        dueNoChange("would", x, false, y -> y.would(0) + y.wouldAgain(0));
        dueNoChange("append", x, false, y -> y.append('a'));
        dueNoChange("tell", x, false, y -> y.tell(0) + y.tellMusicians());
        dueNoChange("save", x, false, y -> y.save());
    }

    private static void eightChanges() {
        sentence("The latest 8 can be undone.");
        for (int changes = 0; changes <= 20; changes++) {
            ChairLeague x = new ChairLeague();
            for (int k = 0; k < changes; k++) {
                x.season();
            }
            int most = Math.min(changes, 8);
            check.due(changes + " changes", x.account(13), most);
            for (int left = most - 1; left >= 0; left--) {
                check.due(changes + " changes, undo", x.undo(), left);
                check.due(changes + " changes, seasons", x.account(10), changes - most + left);
                check.due(changes + " changes, left", x.account(13), left);
            }
            check.due(changes + " changes, no more", x.undo(), NOTHING);
            check.due(changes + " changes, seasons", x.account(10), changes - most);
        }
        // Eight again behind an undo: those ahead of it count on.
        ChairLeague x = new ChairLeague();
        for (int k = 0; k < 12; k++) {
            x.season();
        }
        check.due("undo", x.undo(), 7);
        check.due("undo", x.undo(), 6);
        x.season();
        check.due("changes", x.account(13), 7);
        x.season();
        x.season();
        check.due("changes", x.account(13), 8);
        for (int left = 7; left >= 0; left--) {
            check.due("undo", x.undo(), left);
            check.due("seasons", x.account(10), 5 + left);
        }
        check.due("no more", x.undo(), NOTHING);
    }

    /** A call that answers a code leaves the league, its past and its snapshot as they were. */
    private static void dueCode(String call, String before, int code, Check.Call made) {
        ChairLeague x = Check.league(before);
        x.tell(0);
        x.append('~');
        x.save();
        List<Number> whole = Check.wholeOf(x);
        List<Number> all = Check.allOf(x);
        check.due(call, made.of(x), code);
        check.due(call + " leaves all", whole.equals(Check.wholeOf(x)) ? 1 : 0, 1);
        check.due(call + " leaves the past", x.undo(), 0);
        check.due(call + " leaves the past", x.account(0) + x.account(1), 0);
        x.restore();
        check.due(call + " leaves the snapshot", all.equals(Check.allOf(x)) ? 1 : 0, 1);
    }

    private static void codes() {
        sentence("A call that returns a code leaves everything unchanged, except that run empties "
                + "the text, and that reasons are kept.");
        String few = "h05;m050;m051;s0:0;b0=1;p1";
        String full = "h05;h05;h05;h05;h05;h05;h05;h05;h05;h05";
        dueCode("chair", few, BAD, x -> x.chair(4, 5));
        dueCode("chair", full, REFUSED, x -> x.chair(0, 5));
        dueCode("musician", few, BAD, x -> x.musician(0, 5, 10));
        dueCode("musician", "m050;m050;m050;m050;m050;m050;m050;m050;m050;m050", REFUSED,
                x -> x.musician(0, 5, 0));
        dueCode("chairOf", few, BAD, x -> x.chairOf(0, 8));
        dueCode("fit", few, NONE, x -> x.fit(0, 2));
        dueCode("seat", few, NONE, x -> x.seat(1, 0));
        dueCode("seat", few, REFUSED, x -> x.seat(0, 1));
        dueCode("seat", "h05;h05;m050;a", REFUSED, x -> x.seat(1, 0));
        dueCode("seat", "h05;m051", REFUSED, x -> x.seat(0, 0));
        dueCode("seat", "h05;m190", REFUSED, x -> x.seat(0, 0));
        dueCode("seat", "h09;m080;a;p3", REFUSED, x -> x.seat(0, 0));
        dueCode("rise", few, NONE, x -> x.rise(2));
        dueCode("rise", few, REFUSED, x -> x.rise(1));
        dueCode("would", few, NONE, x -> x.would(1));
        dueCode("bid", few, NONE, x -> x.bid(2, 1));
        dueCode("bid", few, BAD, x -> x.bid(0, 100));
        dueCode("bid", few, REFUSED, x -> x.bid(0, 13));
        dueCode("bid", few, REFUSED, x -> x.bid(1, 0));
        dueCode("sell", few, BAD, x -> x.sell(0));
        dueCode("sell", full, REFUSED, x -> x.sell(1));
        dueCode("concert", few, BAD, x -> x.concert(0));
        dueCode("concert", full, REFUSED, x -> x.concert(1));
        dueCode("lasts", few, BAD, x -> x.lasts(0));
        dueCode("lasts", few, NOTHING, x -> x.lasts(1));
        dueCode("raise", few, NONE, x -> x.raise(1));
        dueCode("raise", few, REFUSED, x -> x.raise(0));
        dueCode("raise", "h05;m040;a;p1;u0;p1;u0;p1;u0;p1;u0;p1;u0;p1", REFUSED, x -> x.raise(0));
        dueCode("promote", "h05;m050;a;p1;p1;p1;p1;t0;t0", REFUSED, x -> x.promote(0));
        dueCode("promote", few, NONE, x -> x.promote(1));
        dueCode("promote", few, REFUSED, x -> x.promote(0));
        dueCode("append", few, BAD, x -> x.append(31));
        dueCode("tell", few, NONE, x -> x.tell(1));
        dueCode("tell", few, NONE, x -> x.tell(-1));
        dueCode("account", few, BAD, x -> x.account(14));
        // A text that is full stays as it is.
        ChairLeague x = new ChairLeague();
        Check.type(x, "a;".repeat(29) + "aa");
        check.due("append", x.append('~'), FULL);
        check.due("the text", x.account(12), 60);
        check.due("the text", x.run(), -2059);
        check.due("run empties it", x.account(12), 0);
        check.due("run empties it", x.append('r'), 1);
        check.due("run empties it", Check.run(x, "0"), REFUSED);
        check.due("run empties it", x.account(12), 0);
        check.due("run empties it", Check.run(x, "a"), 1);
        check.due("run empties it", x.account(12), 0);
        check.reasons("are kept", x, 15, 0);
    }

    private static void codeOrder() {
        sentence("If several codes apply, the one that is listed first is returned.");
        ChairLeague x = Check.league("h05;h05;h05;h05;h05;h05;h05;h05;h05;h05");
        check.due("chair: BAD, REFUSED", x.chair(4, 5), BAD);
        check.due("chair: BAD, REFUSED", x.chair(0, 10), BAD);
        check.due("chairOf: NONE, BAD", x.chairOf(10, 8), NONE);
        check.due("musicianOf: NONE, BAD", x.musicianOf(0, 7), NONE);
        check.due("seat: NONE, REFUSED", x.seat(0, 0), NONE);
        check.due("bid: NONE, BAD", x.bid(0, 100), NONE);
        check.due("sell: BAD, REFUSED", x.sell(0), BAD);
        check.due("concert: BAD, REFUSED", x.concert(0), BAD);
        check.due("lasts: BAD, NOTHING", x.lasts(5), BAD);
        check.due("reason: BAD, NOTHING", x.reason(3, false), BAD);
        check.due("reason: BAD, NOTHING", x.reason(-1, true), BAD);
        check.due("run: the fault, REFUSED", Check.run(x, "r0;r"), -2004);
        check.reasons("none", x);
        x = Check.league("m050;m050;m050;m050;m050;m050;m050;m050;m050;m050");
        check.due("musician: BAD, REFUSED", x.musician(4, 5, 0), BAD);
        check.due("musician: BAD, REFUSED", x.musician(0, 0, 0), BAD);
        check.due("musician: BAD, REFUSED", x.musician(0, 5, 10), BAD);
        check.due("bid: BAD, REFUSED", x.bid(0, 100), BAD);
        check.due("would: NONE, NOTHING", x.would(0), NONE);
        check.due("wouldAgain: NONE, NOTHING", x.wouldAgain(0), NONE);
        check.due("raise: NONE, REFUSED", x.raise(0), NONE);
        check.due("promote: NONE, REFUSED", x.promote(0), NONE);
        Check.type(x, "a".repeat(60));
        check.due("append: BAD, FULL", x.append(127), BAD);
        check.due("append: BAD, FULL", x.append(31), BAD);
        check.due("append: FULL", x.append(126), FULL);
    }

    private static void notUndone() {
        sentence("The text, the line, the reasons and their details are neither undone nor saved, "
                + "and stay.");
        ChairLeague x = Check.league("h05;m051");
        x.save();
        x.season();
        check.refused("seat", x, x.seat(0, 0), 2, 0, 7, 0);
        Check.type(x, "a;");
        check.line("tell", x, x.tell(0), "0s0n5c0");
        check.due("undo", x.undo(), 1);
        dueStays("undo", x, 2);
        check.due("restore", x.restore(), 1);
        dueStays("restore", x, 2);
        x.save();
        dueStays("save", x, 2);
        check.due("the text is as it was", Check.run(x, "r1"), REFUSED);
        check.reasons("the order 1", x, 15, 1);
        check.due("restore", x.restore(), 1);
        check.reasons("stay", x, 15, 1);
        // Also behind a change that succeeds, and one that is undone whole.
        check.due("run", Check.run(x, "a;a"), 2);
        check.reasons("stay", x, 15, 1);
        check.due("undo", x.undo(), 0);
        check.due("the text stays empty", x.account(12), 0);
        check.dueText("stays", Check.lineOf(x), "0s0n5c0");
    }

    private static void dueStays(String call, ChairLeague x, int characters) {
        check.due(call + ": the text", x.account(12), characters);
        check.dueText(call + ": the line", Check.lineOf(x), "0s0n5c0");
        check.reasons(call + ": the reasons", x, 2, 0, 7, 0);
    }

    private static void dueWould(String call, ChairLeague x, String seats) {
        for (int chair = 0; chair < seats.length(); chair++) {
            int due = seats.charAt(chair) == '.' ? NOTHING : seats.charAt(chair) - '0';
            check.due(call + ": would(" + chair + ")", x.would(chair), due);
            check.due(call + ": wouldAgain(" + chair + ")", x.wouldAgain(chair), due);
        }
        x.season();
        for (int chair = 0; chair < seats.length(); chair++) {
            int due = seats.charAt(chair) == '.' ? NOTHING : seats.charAt(chair) - '0';
            check.due(call + ": on chair " + chair, x.chairOf(chair, 7), due);
        }
    }

    private static void askingDoubts() {
        sentence("A chair in a season asks each musician once at most; one who was asked and is "
                + "left, or does not sit down, is not asked again.");
        // Chair 0 has 0 first, who goes to chair 1; then 1, who does not sit down; then 2.
        dueWould("left", Check.league("h05;h05;m050;s1:0;b0=1;c4;r0;m051;m060"), "20");
        // Who does not sit down for one chair does so for another one.
        dueWould("not sat down", Check.league("h05;h05;m060;s1:0;b0=1;c4;r0;m054"), "01");
        // Nobody else is there: the chair that was left stays empty.
        dueWould("nobody else", Check.league("h05;h05;m050;s1:0;b0=1;c4"), ".0");
        dueWould("not borne", Check.league("h05;m051"), ".");
        mostAsked();

        sentence("A fallen chair can have no musician.");
        ChairLeague x = Check.league("h09;m080;m050;a");
        Check.run(x, "p3");
        check.due("who sat there", x.chairOf(0, 7), NOTHING);
        check.refused("another", x, x.seat(0, 1), 2, 1, 3, 1);
        dueWould("in a season", x, ".");
        check.due("sitting", x.account(2), 0);
    }

    private static void mostAsked() {
        // Ten chairs ask ten musicians each: the hundredth that is asked, 9 by chair 9, sits down.
        String nine = "m059;m059;m059;m059;m059;m059;m059;m059;m059";
        String chairs = "h05;h05;h05;h05;h05;h05;h05;h05;h05;h05";
        ChairLeague x = Check.league(chairs, nine + ";m050", "s9:9;b9=1;c1");
        dueWould("the hundredth", x, ".........9");
        x = Check.league(chairs, nine + ";m059");
        dueWould("a hundred in vain", x, "..........");
        // In rounds, somebody sits down as late as in the 43rd.
        x = Check.league("h06;h07;h35;h17;h25;h37;h37;h37;h38;h36",
                "m379;m360;m380;m241;m176;m376;m322;m379", "m352;m050");
        int[] cushions = {4, 1, 7, 6, 4, 9, 8, 8, 7, 8};
        for (int chair = 0; chair < 10; chair++) {
            check.due("seat", x.seat(chair, 9), 1);
            x.bid(9, 1);
            check.due("sell", x.sell(cushions[chair]), 0);
            x.rise(9);
        }
        dueWould("43 rounds", x, "3.29605148");
    }

    private static void otherDoubts() {
        sentence("Fits can be 13 at most, and below 0 never.");
        ChairLeague x = Check.league("h09;h01;m010;m110;m090;m190");
        check.due("9 and 1, own", x.fit(0, 0), 5);
        check.due("9 and 1", x.fit(0, 1), 1);
        check.due("1 and 9, own", x.fit(1, 2), 5);
        check.due("1 and 9", x.fit(1, 3), 1);
        check.due("9 and 9", x.fit(0, 2), 13);
        check.due("1 and 1", x.fit(1, 0), 13);

        sentence("Only bids above 0 count as those who bid.");
        x = Check.league("h05;h15;m050;m150;a;b0=0;b1=0");
        check.refused("bids of 0", x, x.sell(1), 10, 2);
        Check.run(x, "b1=5");
        check.due("alone", x.sell(1), 0);
        check.due("the buyer", x.chairOf(1, 2), 1);
        check.line("no bid is told", x, x.tellMusicians(), "0$8 1$8");
        Check.run(x, "b1=1");
        check.line("a bid of 1 is", x, x.tellMusicians(), "0$8 1$8!1");
        check.due("1 is a bid", x.sell(2), 0);
        check.due("the buyer", x.chairOf(1, 2), 2);

        sentence("The next highest bid is that of another one, and can be as high.");
        x = Check.league("h05;h15;m050;m150;a;b0=4;b1=4");
        check.due("as high", x.sell(1), 4);
        check.due("the lowest buys", x.musicianOf(0, 3), 4);
        check.due("the other keeps", x.musicianOf(1, 3), 8);
        Check.run(x, "b0=4;b1=3");
        check.due("lower", x.sell(1), 3);

        sentence("A cushion that is worse takes the place of a better one, too.");
        x = Check.league("h05;m050;a;b0=1;c9;b0=1");
        check.due("a worse one", x.sell(1), 0);
        check.due("in its place", x.chairOf(0, 2), 1);

        sentence("Marks of a chair are those of all who sat on it.");
        x = Check.league("h05;m050;m060;s0:0;p1;r0");
        check.due("one", x.chairOf(0, 6), 13);
        Check.run(x, "s0:1;p1");
        check.due("and another", x.chairOf(0, 6), 25);
        x.rise(1);
        check.due("stay", x.chairOf(0, 6), 25);
        check.due("count for a tier", x.promote(0), 1);

        sentence("A musician who sits stays also if a cushion makes the chair one that is not "
                + "borne.");
        x = Check.league("h05;m050;a;b0=1;c5;r0;m055;s0:1;b1=1");
        check.due("sold", x.sell(4), 0);
        check.due("the comfort", x.chairOf(0, 5), 4);
        check.due("stays", x.chairOf(0, 7), 1);
        check.due("stays", x.musicianOf(1, 5), 0);
        check.due("plays", x.concert(1), 13);
        check.due("stays", x.chairOf(0, 7), 1);
        check.due("but for a season", x.would(0), 0);

        sentence("A fallen chair can come into the next tier, too.");
        x = Check.league("h09;m080;a;p1;p2");
        check.due("fallen", x.chairOf(0, 3), 0);
        check.due("24 marks", x.promote(0), 1);
        check.due("in the tier", x.hall(1), 1);
        check.due("still fallen", x.chairOf(0, 3), 0);
        check.refused("16 are lacking", x, x.promote(0), 14, 16);
    }

    private static void rangesOfOrders() {
        sentence("Numbers of orders are asked for their range ahead of reasons.");
        ChairLeague x = Check.league("h05;h05;h05;h05;h05;h05;h05;h05;h05;h05");
        check.refused("h: the section", x, Check.run(x, "h45"), 15, 0);
        check.refused("h: the need", x, Check.run(x, "h00"), 15, 0);
        check.refused("h: in range", x, Check.run(x, "h01"), 15, 0, 1, 10);
        check.refused("c: too small", x, Check.run(x, "c0"), 15, 0);
        check.refused("c: in range", x, Check.run(x, "c1"), 15, 0, 10, 0);
        check.refused("p: too small", x, Check.run(x, "p0"), 15, 0);
        check.refused("p: too large", x, Check.run(x, "p5"), 15, 0);
        check.refused("p: too large", x, Check.run(x, "p9"), 15, 0);
        check.refused("p: in range", x, Check.run(x, "p4"), 15, 0, 11, 0);
        check.refused("s: no such musician", x, Check.run(x, "s0:0"), 15, 0);
        x = Check.league("m050;m050;m050;m050;m050;m050;m050;m050;m050;m050");
        check.refused("m: the section", x, Check.run(x, "m450"), 15, 0);
        check.refused("m: the skill", x, Check.run(x, "m000"), 15, 0);
        check.refused("m: in range", x, Check.run(x, "m399"), 15, 0, 1, 10);
        check.refused("u: no such chair", x, Check.run(x, "u0"), 15, 0);
        check.refused("t: no such chair", x, Check.run(x, "t0"), 15, 0);
        x = Check.league("h05;m050");
        check.refused("b: no such musician", x, Check.run(x, "b1=9"), 15, 0);
        check.refused("b: in range", x, Check.run(x, "b0=9"), 15, 0, 8, 0);
        check.refused("r: no such musician", x, Check.run(x, "r1"), 15, 0);
        check.refused("r: in range", x, Check.run(x, "r0"), 15, 0, 8, 0);
    }

    private static void constants() {
        sentence("`NONE = -1011`: There is no such number.");
        check.due("NONE", NONE, -1011);
        check.due("a chair", new ChairLeague().chairOf(0, 0), -1011);

        sentence("`BAD = -1012`: A number is out of range.");
        check.due("BAD", BAD, -1012);
        check.due("a section", new ChairLeague().chair(4, 5), -1012);

        sentence("`FULL = -1013`: There is no room for more.");
        check.due("FULL", FULL, -1013);
        ChairLeague x = new ChairLeague();
        Check.type(x, "a".repeat(60));
        check.due("a character", x.append('a'), -1013);

        sentence("`REFUSED = -1014`: It is refused for a reason.");
        check.due("REFUSED", REFUSED, -1014);
        check.due("a concert", new ChairLeague().concert(1), -1014);

        sentence("`NOTHING = -1015`: There is nothing of this kind.");
        check.due("NOTHING", NOTHING, -1015);
        check.due("undo", new ChairLeague().undo(), -1015);
    }
}
