import java.util.List;

/** Promises 22 to 26. */
public final class TextsAndLinesTest {
    private static final int NONE = ChairLeague.NONE;
    private static final int BAD = ChairLeague.BAD;
    private static final int FULL = ChairLeague.FULL;
    private static final int REFUSED = ChairLeague.REFUSED;
    private static final int[] FAR = {Integer.MIN_VALUE, -1011, -2, -1, 1 << 20,
        Integer.MAX_VALUE};
    private static final Check check = new Check("TextsAndLinesTest");

    public static void main(String[] args) {
        append();
        faults();
        faultsOfEachOrder();
        longTexts();
        eachOrder();
        refusedOrders();
        allOrNone();
        tell();
        tellMusicians();
        character();
        check.finish();
    }

    private static void append() {
        check.part("promise 22");
        ChairLeague x = new ChairLeague();
        check.due("31", x.append(31), BAD);
        check.due("127", x.append(127), BAD);
        check.due("0", x.append(0), BAD);
        check.due("233", x.append(233), BAD);
        for (int far : FAR) {
            check.due("code " + far, x.append(far), BAD);
        }
        check.due("characters", x.account(12), 0);
        check.due("32", x.append(32), 1);
        check.due("126", x.append(126), 2);
        for (int length = 3; length <= 60; length++) {
            check.due("length", x.append('h'), length);
            check.due("characters", x.account(12), length);
        }
        check.due("a 61st", x.append('h'), FULL);
        check.due("BAD ahead of FULL", x.append(127), BAD);
        check.due("BAD ahead of FULL", x.append(31), BAD);
        check.due("characters", x.account(12), 60);
        check.due("no change", x.account(13), 0);
        check.due("run", x.run(), -2000);
        check.due("characters", x.account(12), 0);
        check.due("append", x.append('h'), 1);
        // The text is neither undone nor saved.
        x.save();
        x.chair(0, 5);
        x.append('0');
        check.due("undo", x.undo(), 0);
        check.due("characters", x.account(12), 2);
        x.append('5');
        check.due("restore", x.restore(), 0);
        check.due("append", x.append(';'), 4);
    }

    private static void dueFault(String text, int position) {
        ChairLeague x = new ChairLeague();
        Check.type(x, text);
        check.due("characters of '" + text + "'", x.account(12), text.length());
        check.due("'" + text + "'", x.run(), -2000 - position);
        check.due("characters behind '" + text + "'", x.account(12), 0);
        check.due("chairs behind '" + text + "'", x.account(0), 0);
        check.due("changes behind '" + text + "'", x.account(13), 0);
        check.reasons("'" + text + "'", x);
    }

    private static void faults() {
        check.part("promise 23, faults");
        dueFault("", 0);
        dueFault(";", 0);
        dueFault(" ", 0);
        dueFault("0", 0);
        dueFault("H05", 0);
        dueFault("z", 0);
        dueFault("h05;", 4);
        dueFault("h05;;", 4);
        dueFault("h05; h05", 4);
        dueFault("h05 ;h05", 3);
        dueFault("h05,h05", 3);
        dueFault("h05h05", 3);
        dueFault("h05;h15;x", 8);
        dueFault("h05;h1", 6);
        dueFault("h0x;h0", 2);
        dueFault("a0", 1);
        dueFault("a;", 2);
        dueFault("aa", 1);
        dueFault("h/5", 1);
        dueFault("h:5", 1);
        dueFault("h-1", 1);
        // Right but for the end; the orders ahead of a fault are not carried out.
        dueFault("h05;m050;s0:0;a;b0=1;c1;p1;u0;t0;r0;h", 37);
    }

    private static void faultsOfEachOrder() {
        check.part("promise 23, faults of each order");
        String[] orders = {"h05", "m050", "s0:0", "r0", "a", "b0=5", "b0=15", "c5", "p1", "u0",
            "t0"};
        for (String order : orders) {
            for (int length = 1; length < order.length(); length++) {
                boolean isOrder = order.equals("b0=15") && length == 4;
                if (!isOrder) {
                    dueFault("a;" + order.substring(0, length), 2 + length);
                    dueFault(order.substring(0, length) + ";", length);
                    dueFault(order.substring(0, length) + "~;a", length);
                }
            }
            dueFault(order + "~", order.length());
            dueFault(order + ";", order.length() + 1);
            dueFault(order + ";~", order.length() + 1);
            boolean isShortBid = order.equals("b0=5");
            dueFault(order + "9~", order.length() + (isShortBid ? 1 : 0));
        }
        dueFault("b0=123", 5);
        dueFault("b0:1", 2);
        dueFault("s0=1", 2);
        dueFault("s01", 2);
        dueFault("b01", 2);
        dueFault("b10=1", 2);
        dueFault("b0=1=", 4);
    }

    private static void longTexts() {
        check.part("promise 23, long texts");
        String orders = "a;a;a;a;a;a;a;a;a;a;a;a;a;a;a;a;a;a;a;a;a;a;a;a;a;a;a;a;a;";
        ChairLeague x = new ChairLeague();
        check.due("30 orders in 59 characters", Check.run(x, orders + "a"), 30);
        check.due("seasons", x.account(10), 30);
        check.due("changes", x.account(13), 1);
        check.due("undo", x.undo(), 0);
        check.due("seasons", x.account(10), 0);
        dueFault(orders + "a;", 60);
        dueFault(orders + "~", 58);
        dueFault(orders + "aa", 59);
        check.refused("the order 29", x, Check.run(x, orders + "r0"), 15, 29);
        check.due("60 characters", Check.run(x, orders.substring(0, 56) + "b0=0"), REFUSED);
        check.reasons("the order 28", x, 15, 28);
        check.due("characters", x.account(12), 0);
        // A text that is shorter than the one before: nothing of that is left.
        dueFault("h05;h05;h05;~", 12);
        check.due("short", Check.run(x, "a"), 1);
    }

    private static void eachOrder() {
        check.part("promise 23, each order");
        ChairLeague x = new ChairLeague();
        check.due("h", Check.run(x, "h37"), 1);
        check.due("section", x.chairOf(0, 0), 3);
        check.due("need", x.chairOf(0, 1), 7);
        check.due("m", Check.run(x, "m265"), 1);
        check.due("section", x.musicianOf(0, 0), 2);
        check.due("skill", x.musicianOf(0, 1), 6);
        check.due("demand", x.musicianOf(0, 2), 5);
        check.due("h and m", Check.run(x, "h21;m360;m210"), 3);
        check.due("s", Check.run(x, "s1:2"), 1);
        check.due("the chair", x.musicianOf(2, 5), 1);
        check.due("s", Check.run(x, "s0:1"), 1);
        check.due("the chair", x.musicianOf(1, 5), 0);
        check.due("b", Check.run(x, "b1=8;b2=07"), 2);
        check.due("bid", x.musicianOf(1, 4), 8);
        check.due("two digits", x.musicianOf(2, 4), 7);
        check.due("c", Check.run(x, "c6"), 1);
        check.due("cushion", x.chairOf(0, 2), 6);
        check.due("coins", x.musicianOf(1, 3), 1);
        check.due("p", Check.run(x, "p2"), 1);
        check.due("stand", x.chairOf(0, 3), 1);
        check.due("marks", x.chairOf(1, 6), 13);
        check.due("b", Check.run(x, "b2=11"), 1);
        check.due("two digits", x.musicianOf(2, 4), 11);
        check.due("u", Check.run(x, "u0"), 1);
        check.due("stand", x.chairOf(0, 3), 3);
        check.due("t", Check.run(x, "p1;t1;p1;t0"), 4);
        check.due("tiers", x.hall(1), 3);
        check.due("r", Check.run(x, "r2"), 1);
        check.due("the chair", x.musicianOf(2, 5), ChairLeague.NOTHING);
        check.due("a", Check.run(x, "a"), 1);
        check.due("the chair", x.musicianOf(2, 5), 1);
        check.due("seasons", x.account(10), 1);
        check.due("concerts", x.account(9), 3);
        check.due("sold", x.account(11), 1);
        check.due("isBalanced", x.isBalanced(), 1);
        check.reasons("none", x);
    }

    private static void dueRefused(String before, String text, int... reasonsAndDetails) {
        ChairLeague x = before.isEmpty() ? new ChairLeague() : Check.league(before);
        List<Number> all = Check.allOf(x);
        int changes = x.account(13);
        check.refused("'" + text + "'", x, Check.run(x, text), reasonsAndDetails);
        check.due("all is as before", all.equals(Check.allOf(x)) ? 1 : 0, 1);
        check.due("changes", x.account(13), changes);
        check.due("characters", x.account(12), 0);
    }

    private static void refusedOrders() {
        check.part("promise 23, refused");
        // Codes other than REFUSED: nothing stands behind 15.
        dueRefused("", "h45", 15, 0);
        dueRefused("", "h00", 15, 0);
        dueRefused("", "a;h95", 15, 1);
        dueRefused("", "a;a;m450", 15, 2);
        dueRefused("", "m000", 15, 0);
        dueRefused("", "s0:0", 15, 0);
        dueRefused("h05;m050", "s0:1", 15, 0);
        dueRefused("h05;m050", "s1:0", 15, 0);
        dueRefused("h05;m050", "r1", 15, 0);
        dueRefused("h05;m050", "b1=1", 15, 0);
        dueRefused("h05;m050", "u1", 15, 0);
        dueRefused("h05;m050", "t9", 15, 0);
        dueRefused("h05;m050", "p0", 15, 0);
        dueRefused("h05;m050", "p5", 15, 0);
        dueRefused("h05;m050", "c0", 15, 0);
        // A reason, and what stands behind it.
        dueRefused("h05;h05;h05;h05;h05;h05;h05;h05;h05;h05", "a;h05", 15, 1, 1, 10);
        dueRefused("h09;m080;s0:0;p3", "s0:0", 15, 0, 2, 0, 3, 1);
        dueRefused("h05;m050;m050;s0:0", "s0:1", 15, 0, 2, 1, 4, 0);
        dueRefused("h05;h05;m050;s0:0", "s1:0", 15, 0, 2, 0, 5, 0);
        dueRefused("h05;m190", "a;a;s0:0", 15, 2, 2, 0, 6, 5);
        dueRefused("h05;m051", "s0:0", 15, 0, 2, 0, 7, 0);
        dueRefused("h05;m051", "r0", 15, 0, 8, 0);
        dueRefused("h05;m051", "b0=0", 15, 0, 8, 0);
        dueRefused("h05;m050;a", "b0=9", 15, 0, 9, 8);
        dueRefused("h05;m050;a", "c9", 15, 0, 10, 1);
        dueRefused("h05;m050", "p4", 15, 0, 11, 1);
        dueRefused("h05;m050", "u0", 15, 0, 12, 3);
        dueRefused("h05;m050", "a;p1;t0", 15, 2, 14, 7);
        dueRefused("h05;m050;a;p1;p1;p1;p1;t0;t0", "t0", 15, 0, 13, 52);
        // What stood behind the reason before is gone.
        ChairLeague x = Check.league("h05;m051");
        check.refused("not borne", x, Check.run(x, "s0:0"), 15, 0, 2, 0, 7, 0);
        check.refused("none there", x, Check.run(x, "a;s0:1"), 15, 1);
        check.refused("does not sit", x, x.rise(0), 8, 0);
        check.due("a fault", Check.run(x, "r"), -2001);
        check.reasons("kept", x, 8, 0);
        check.due("right", Check.run(x, "a"), 1);
        check.reasons("kept", x, 8, 0);
    }

    private static void allOrNone() {
        check.part("promise 23, all or none");
        dueRefused("h05;m050", "h15;m150;s0:0;s1:1;b0=5;b1=4;c3;p4;u0;a;r0;h05;t0", 15, 12, 14, 7);
        dueRefused("h05;m050;a;p4", "p4;p4;u0;h11;m380;a;b1=3;c1;r1", 15, 6, 8, 1);
        // Refusals and faults between changes leave those that can be undone.
        ChairLeague x = Check.league("h05;m050", "a", "p1");
        check.refused("refused", x, Check.run(x, "p4;p4;p4;p4"), 15, 3, 11, 1);
        check.due("a fault", Check.run(x, "p4;p4;x"), -2006);
        check.due("concerts", x.account(9), 1);
        check.due("changes", x.account(13), 3);
        check.due("undo", x.undo(), 2);
        check.due("concerts", x.account(9), 0);
        check.due("sitting", x.account(2), 1);
        check.due("undo", x.undo(), 1);
        check.due("sitting", x.account(2), 0);
        check.due("undo", x.undo(), 0);
        check.due("chairs", x.account(0), 0);
        // Orders see what those ahead of them did.
        check.due("run", Check.run(x, "h05;m050;s0:0;p1;p1;t0;b0=16;c9;r0"), 9);
        check.due("comfort", x.chairOf(0, 5), 12);
        check.due("changes", x.account(13), 1);
        check.due("isBalanced", x.isBalanced(), 1);
    }

    private static void tell() {
        check.part("promise 24");
        ChairLeague x = Check.league("h05;h17;h29;h31");
        check.line("tell", x, x.tell(0), "0s0n5c0");
        check.line("tell", x, x.tell(1), "1s1n7c0");
        check.line("tell", x, x.tell(3), "3s3n1c0");
        check.due("chair 4", x.tell(4), NONE);
        check.due("chair -1", x.tell(-1), NONE);
        for (int far : FAR) {
            check.due("chair " + far, x.tell(far), NONE);
        }
        check.dueText("the line stays", Check.lineOf(x), "3s3n1c0");
        Check.run(x, "m050;m160;m280;s0:0;s1:1;s2:2;b1=1;c2");
        check.line("tell", x, x.tell(0), "0s0n5c0:0");
        check.line("tell", x, x.tell(1), "1s1n7c2:1");
        Check.run(x, "p1;p1;t0;t1");
        check.line("tell", x, x.tell(0), "0s0n5c0^:0");
        check.line("tell", x, x.tell(2), "2s2n9c0:2");
        Check.run(x, "p1");
        check.line("fallen", x, x.tell(1), "1s1n7c2^x");
        check.line("fallen", x, x.tell(2), "2s2n9c0x");
        Check.run(x, "p1;t0");
        check.line("tell", x, x.tell(0), "0s0n5c0^^:0");
        Check.run(x, "r0");
        check.line("tell", x, x.tell(0), "0s0n5c0^^");
        check.due("changes", x.account(13), 6);
        // As in the document.
        x = Check.league("h05;h05;h05;h31;m310;s3:0;p1;p1;p1;p1;t3;t3;b0=0", "r0;m310;s3:1;b1=1;c2",
                "r1;s3:0");
        check.line("tell", x, x.tell(3), "3s3n1c2^^:0");
        // Fallen of the highest tier; the musician 9.
        x = Check.league("h05;m040;a;p1;p1;p1;u0;a;p1;t0;t0;p2");
        check.line("tell", x, x.tell(0), "0s0n5c0^^x");
        x = Check.league("m050;m050;m050;m050;m050;m050;m050;m050;m050;m160;h19;s0:9");
        check.line("tell", x, x.tell(0), "0s1n9c0:9");
    }

    private static void tellMusicians() {
        check.part("promise 25");
        ChairLeague x = new ChairLeague();
        check.line("none", x, x.tellMusicians(), "");
        Check.run(x, "h05;h15;m050");
        check.line("one", x, x.tellMusicians(), ".$8");
        x.tell(0);
        Check.run(x, "m150;m250;s1:0;s0:1;b0=8");
        check.line("three", x, x.tellMusicians(), "1$8!8 0$8 .$8");
        Check.run(x, "b1=3;c1;p1");
        check.line("three", x, x.tellMusicians(), "1$8 0$11 .$8");
        Check.run(x, "b1=11;b0=0");
        check.line("three", x, x.tellMusicians(), "1$8 0$11!11 .$8");
        check.due("changes", x.account(13), 4);
        x = new ChairLeague();
        Check.run(x, "h25;h25;h25;m250;m251;m250;m250;s0:3;s2:0;b0=8;b3=8;c1");
        Check.run(x, "r3;s1:2;b0=0");
        check.line("as paid", x, x.tellMusicians(), "2$0 .$8 1$8 .$8");
        // One digit or two, and a bid of 1.
        x = Check.league("h05;m180;s0:0;p1;b0=1");
        check.line("10 coins", x, x.tellMusicians(), "0$10!1");
        Check.run(x, "b0=10;p1");
        check.line("12 coins", x, x.tellMusicians(), "0$12!10");
        Check.run(x, "b0=9");
        check.line("a bid of 9", x, x.tellMusicians(), "0$12!9");
        // The longest line: ten who sit with 99 coins and bid them.
        x = new ChairLeague();
        for (int k = 0; k < 10; k++) {
            x.chair(0, 5);
            x.musician(0, 5, 0);
        }
        x.season();
        for (int k = 0; k < 23; k++) {
            x.concert(1);
        }
        for (int k = 0; k < 10; k++) {
            x.bid(k, 99);
        }
        check.line("the longest", x, x.tellMusicians(), "0$99!99 1$99!99 2$99!99 3$99!99 4$99!99 "
                + "5$99!99 6$99!99 7$99!99 8$99!99 9$99!99");
        check.line("in its place", x, x.tell(9), "9s0n5c0:9");
    }

    private static void character() {
        check.part("promise 26");
        ChairLeague x = Check.league("h05");
        check.due("empty at first", x.character(0), NONE);
        check.due("length", x.tell(0), 7);
        check.due("0", x.character(0), '0');
        check.due("1", x.character(1), 's');
        check.due("6", x.character(6), '0');
        check.due("7", x.character(7), NONE);
        for (int far : FAR) {
            check.due("character " + far, x.character(far), NONE);
        }
        check.due("musicians", x.tellMusicians(), 0);
        check.due("empty", x.character(0), NONE);
        // The line is neither undone nor saved.
        x.tell(0);
        x.save();
        x.musician(0, 5, 0);
        x.tellMusicians();
        x.undo();
        check.dueText("stays", Check.lineOf(x), ".$8");
        x.restore();
        check.dueText("stays", Check.lineOf(x), ".$8");
        check.due("NONE", x.tell(5), NONE);
        check.dueText("stays", Check.lineOf(x), ".$8");
        check.due("append", x.append('a'), 1);
        x.run();
        check.dueText("stays", Check.lineOf(x), ".$8");
    }
}
