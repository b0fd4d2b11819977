/** Promises 12 to 18, sentence by sentence. */
final class HoursEdges {
    private static final String OPEN = "33.........";

    private HoursEdges() {
    }

    static void run() {
        hours();
        promises();
        takenBack();
        lettingGo();
        buying();
        dayActs();
        dayRefused();
        dayFaults();
        undos();
        undoEdges();
        forgets();
    }

    private static void hours() {
        Says.of(12, "n HOURS (0 .. 60): the FIELD where BOAT is");
        FishFerry x = Check.ferry(OPEN, "t9", "0222");
        Says.is(x.hours(0) + " " + x.count(7), "0 0");
        Says.is(x.hours(1) + " " + x.count(7), "3 1");
        Says.is(x.hours(60) + " " + x.count(7), "8 61");

        Says.of(12, "the ROW: PROMISES kept, broken in these, in how many it STUCK.");
        FishFerry y = Check.ferry(OPEN, "t9;t1;t1;t1", "0029;1019;2019;3020");
        Says.tells("none in no HOUR", y, y.hours(0), "0 [0, 0, 0]");
        Says.tells("one kept, one broken of 9, 9 and 9 in two", y, y.hours(2), "2 [3, 1, 0]");
        Says.tells("in these alone", y, y.hours(3), "2 [0, 0, 3]");
        Says.tells("60 in which it STUCK", y, y.hours(60), "2 [0, 0, 60]");

        Says.of(12, "Refused: another n.");
        Says.are("[-1, -1, -1, -1]", x.hours(-1), x.hours(61), x.hours(Integer.MIN_VALUE), x.hours(Integer.MAX_VALUE));
        Says.is("nothing passed", x.count(7) + " " + x.count(11), "61 4");
    }

    private static void promises() {
        Says.of(13, "A FISH is promised a FIELD and n (0 .. 9) crumbs (instead of what it was promised): how many FISH have a PROMISE.");
        FishFerry x = Check.ferry("22...#", "t5;e5;s5;p5", "");
        Says.are("[1, 2, 2, 3]", x.promise(0, 0, 0), x.promise(3, 3, 9), x.promise(3, 2, 4), x.promise(2, 3, 9));
        Says.is(Check.each(x, 5) + " " + Check.each(x, 6), "0 -1 3 2 0 -1 9 4");
        Says.is("a rock, where BOAT is, one that let go", x.letsGo(0) + " " + x.promise(0, 3, 1), "3 3");

        Says.of(13, "-3: it is an eel");
        Says.is(x.promise(1, 0, 0) + " " + x.one(1, 5), "-3 -1");

        Says.of(13, "-4: it has no TRUST");
        FishFerry wary = wary();
        Says.is(wary.promise(0, 0, 0) + " " + wary.one(0, 5), "-4 -1");

        Says.of(13, "NONE: others (asked first).");
        Says.are("[-1, -1, -1]", x.promise(-1, 0, 0), x.promise(4, 0, 0), x.promise(8, 0, 0));
        Says.are("[-1, -1, -1, -1]", x.promise(0, -1, 0), x.promise(0, 4, 0), x.promise(0, 0, -1), x.promise(0, 0, 10));
        Says.are("[-1, -1, -1, -1]", x.promise(1, -1, 0), x.promise(1, 4, 0), x.promise(1, 0, -1), x.promise(1, 0, 10));
        Says.are("[-1, -1, -1, -1]", wary.promise(0, -1, 0), wary.promise(0, 4, 0), wary.promise(0, 0, -1), wary.promise(0, 0, 10));
    }

    /** A trout without TRUST. */
    private static FishFerry wary() {
        FishFerry x = Check.ferry("22....", "t5", "0110");
        x.takesBack(0);
        x.promise(0, 3, 0);
        x.takesBack(0);
        return x;
    }

    private static void takenBack() {
        Says.of(14, "The PROMISE of a FISH is taken back: TRUST (3 less, 0 at least).");
        FishFerry x = Check.ferry("22....", "t5;t5", "0110;1110");
        Says.is(x.takesBack(0) + " " + Check.each(x, 3) + " " + Check.each(x, 5), "2 2 5 -1 3");
        x.promise(0, 1, 1);
        Says.is("0 at least", x.takesBack(0) + " " + Check.each(x, 3), "0 0 5");
        FishFerry three = Check.ferry("22....", "t5", "0000");
        three.takesBack(0);
        three.promise(0, 0, 0);
        three.hours(1);
        three.promise(0, 0, 0);
        Says.is("of 3 none is left", three.one(0, 3) + " " + three.takesBack(0), "3 0");

        Says.of(14, "-2: it has none");
        Says.is(x.takesBack(0) + " " + Check.each(x, 3), "-2 0 5");
        Says.of(14, "NONE: none such.");
        Says.are("[-1, -1, -1]", x.takesBack(-1), x.takesBack(2), new FishFerry().takesBack(0));
    }

    private static void lettingGo() {
        Says.of(15, "A FISH lets go, or takes HOLD: how many HOLD then.");
        FishFerry x = Check.ferry("22....", "t5;e5;s5;t1;t1;t1;t1;t1", "0110");
        Says.is(x.letsGo(0) + " " + x.count(9), "7 254");
        Says.is(x.letsGo(7) + " " + x.count(9), "6 126");
        Says.is(x.letsGo(0) + " " + x.count(9), "7 127");
        Says.is("its PROMISE stays", Check.ones(x, 0, 4, 5), "1 3");
        FishFerry one = Check.ferry("", "e1", "");
        Says.are("[0, 1, 0]", one.letsGo(0), one.letsGo(0), one.letsGo(0));
        Says.of(15, "NONE: none such.");
        Says.are("[-1, -1, -1, -1]", x.letsGo(-1), x.letsGo(8), one.letsGo(1), new FishFerry().letsGo(0));
        Says.is(x.count(9) + " " + one.count(9), "127 0");
    }

    private static void buying() {
        Says.of(16, "n (1 .. 99) crumbs more in STORE: STORE.");
        FishFerry x = new FishFerry();
        Says.are("[21, 99]", x.buys(1), x.buys(78));
        FishFerry empty = Check.ferry("", "t1;t1;t1", "0009;1009;2002");
        empty.hours(1);
        Says.is("99 into an empty one", empty.buys(99) + " " + empty.count(4), "99 99");
        Says.of(16, "-3: there would be more than 99");
        Says.are("[-3, -3, 99]", x.buys(1), x.buys(99), x.count(4));
        Says.are("[-3, 99]", new FishFerry().buys(80), new FishFerry().buys(79));
        Says.of(16, "NONE: another n.");
        Says.are("[-1, -1, -1, -1, -1]", x.buys(0), x.buys(-1), x.buys(100), x.buys(Integer.MIN_VALUE), x.buys(Integer.MAX_VALUE));
        Says.is(x.count(4), 99);
    }

    private static int day(FishFerry x, String text) {
        return Check.put(x, text).day();
    }

    private static void dayActs() {
        Says.of(17, "THE TEXT tells A DAY (an empty one: nothing), signs one behind another: ");
        FishFerry x = Check.ferry(OPEN, "t9;s9;e9", "");
        Says.is(day(x, "") + " " + Check.counts(x, 7, 11, 13), "0 0 0 0");
        Says.is(day(x, "b1n1l0") + " " + Check.counts(x, 4, 7, 9, 11, 13), "3 21 1 6 1 0");
        Says.of(17, "n and a digit (hours())");
        Says.is(day(x, "n0") + " " + x.count(7) + " " + day(x, "n9") + " " + x.count(7), "1 1 1 10");
        Says.of(17, "p, a digit (FISH), two digits (ROW, COLUMN) and a digit (promise())");
        Says.is(day(x, "p0129p1210") + " " + Check.each(x, 5) + " " + Check.each(x, 6), "2 5 7 -1 9 0 -1");
        Says.of(17, "t and a digit (takesBack())");
        Says.is(day(x, "t1") + " " + Check.each(x, 5) + " " + Check.each(x, 3), "1 5 -1 -1 5 2 5");
        Says.of(17, "l and a digit (letsGo())");
        Says.is(day(x, "l0l2") + " " + x.count(9), "2 3");
        Says.of(17, "b and a digit 1 .. 9 (buys()): ");
        Says.is(day(x, "b1b9") + " " + x.count(4) + " " + day(x, "b0"), "2 31 -2");
    }

    private static void dayRefused() {
        Says.of(17, "they are done one by one, till one is refused (it answers below 0; a FIELD that is not there, too): how many were done");
        String[] refused = {"t0", "t2", "t9", "l3", "l9", "p2000", "p3000", "p0300", "p0030", "p0990"};
        for (String act : refused) {
            FishFerry x = Check.ferry(OPEN, "t9;s9;e9", "");
            Says.tells(act + " in the middle", x, day(x, "b5" + act + "b5n1"), "1 [1, 0]");
            Says.is(act + " and none behind it", Check.counts(x, 4, 7, 11), "25 0 1");
            Says.tells(act + " at first", x, day(x, act + "b5"), "0 [1, 0]");
            Says.is(act + " and none behind it", Check.counts(x, 4, 7, 11), "25 0 1");
            Says.tells(act + " at last", x, day(x, "b5n1" + act), "2 [1, 0]");
        }
        FishFerry full = Check.ferry(OPEN, "t9", "");
        full.buys(75);
        Says.is("more than 99", day(full, "b4b1n1") + " " + Check.counts(full, 4, 7), "1 99 0");
        FishFerry wary = wary();
        Says.is("no TRUST", day(wary, "n1p0000n1") + " " + wary.count(7), "1 1");

        Says.of(17, "the ROW: 1 if one was refused, else 0; the FIELD where BOAT is.");
        FishFerry x = Check.ferry(OPEN, "t9", "");
        Says.tells("done", x, day(x, "p0220n2"), "2 [0, 4]");
        Says.tells("refused behind an HOUR", x, day(x, "n1l9n1"), "1 [1, 7]");
        Says.tells("nothing", x, day(x, ""), "0 [0, 7]");
    }

    private static void dayFaults() {
        Says.of(17, "-1 - p: the sign at p can't stand there (its end, if it ends too early");
        FishFerry x = Check.ferry(OPEN, "t9", "");
        Says.are("[-2, -2, -2, -2, -2]", day(x, "n"), day(x, "p"), day(x, "t"), day(x, "l"), day(x, "b"));
        Says.are("[-3, -4, -5, -4]", day(x, "p0"), day(x, "p00"), day(x, "p000"), day(x, "n1n"));
        Says.are("[-1, -1, -1, -1]", day(x, "x1"), day(x, "1n"), day(x, "N1"), day(x, ";"));
        Says.are("[-2, -2, -2, -2]", day(x, "nx"), day(x, "tn"), day(x, "l-"), day(x, "b0"));
        Says.are("[-2, -3, -4, -5, -6]", day(x, "px"), day(x, "p0x"), day(x, "p00x"), day(x, "p000x"), day(x, "p00000"));
        Says.are("[-3, -3, -3]", day(x, "n10"), day(x, "n1;n1"), day(x, "n1 "));
        Says.of(17, "nothing is done then.");
        Says.is(day(x, "n1b9l0x") + " " + Check.counts(x, 4, 7, 9, 11, 12, 13), "-7 20 0 1 0 0 0");

        Says.of(17, "60, if it has more and the first 60 could go on or end)");
        String sixty = "n0".repeat(30);
        Says.are("[30, -61, -61, -61]", day(x, sixty), day(x, sixty + "n"), day(x, sixty + "n0"), day(x, sixty + "?"));
        String open = "n0".repeat(28) + "p000";
        Says.are("[-61, -61, -61]", day(x, open), day(x, open + "0"), day(x, open + "?"));
        Says.are("[-60, -59, -61]", day(x, "n0".repeat(29) + "nxn0"), day(x, "n0".repeat(29) + "?0n0"), day(x, "n0".repeat(40)));
    }

    /** All that undo() brings back. */
    private static String held(FishFerry x) {
        return Check.counts(x, 3, 4, 5, 6, 7, 9) + "|" + Check.each(x, 2) + "|" + Check.each(x, 3) + "|" + Check.each(x, 4) + "|"
                + Check.each(x, 5) + "|" + Check.each(x, 6);
    }

    /** One of the acts that can be undone, each of which changes something. */
    private static long act(FishFerry x, int which) {
        switch (which) {
            case 0: return Check.put(x, "0229;1000").oar();
            case 1: return x.hours(3);
            case 2: return x.promise(1, 3, 3);
            case 3: return x.takesBack(0);
            case 4: return x.letsGo(0);
            case 5: return x.buys(1);
            default: return Check.put(x, "n1b1l2p0000n1").day();
        }
    }

    private static void undos() {
        Says.of(18, "The latest oar() (not of an empty text), hours(), promise(), takesBack(), letsGo(), buys() or day()");
        for (int which = 0; which < 7; which++) {
            FishFerry x = Check.ferry(OPEN, "t9;s7;p5", "0119;1200;2029");
            String before = held(x);
            long answer = act(x, which);
            Says.is("act " + which, answer >= 0 && !held(x).equals(before) && x.count(11) == 2, true);
            Says.is("act " + which + " undone", x.undo() + " " + held(x), "1 " + before);
        }
        FishFerry y = Check.ferry("", "t1", "");
        Says.is("an empty oar", Check.put(y, "").oar() + " " + y.count(11), "0 0");

        Says.of(18, "is undone (BOAT, TIRED, TRUST, HOLDING, PROMISES, STORE, KEPT, BROKEN, HOUR are as ahead of it): "
                + "how many are left that can be.");
        FishFerry x = Check.ferry(OPEN, "t9;t1;t1;e1", "0109;1109;2103");
        String before = held(x);
        Says.tells("BOAT, TIRED, TRUST, PROMISES, STORE, KEPT, BROKEN, HOUR change", x, x.hours(1), "3 [2, 1, 0]");
        String between = held(x);
        Says.is("HOLDING changes", x.letsGo(3) + " " + x.count(9), "3 7");
        Says.is(x.undo() + " " + held(x), "2 " + between);
        Says.is(x.undo() + " " + held(x), "1 " + before);
        Says.is("the oar", x.undo() + " " + held(x), "0 0 20 0 0 0 15|0 0 0 0|5 5 5 5|1 1 1 1|-1 -1 -1 -1|-1 -1 -1 -1");
    }

    private static void undoEdges() {
        Says.of(18, "(of 15 that are kept, the latest ones");
        FishFerry x = new FishFerry();
        for (int i = 1; i <= 17; i++) {
            x.buys(1);
            Says.is("after " + i, x.count(11), Math.min(15, i));
        }
        for (int left = 14; left >= 0; left--) {
            Says.is(x.undo() + " " + x.count(4), left + " " + (22 + left));
        }
        Says.is("the first two stay done", x.undo() + " " + x.count(4), "-1 22");
        for (int i = 0; i < 20; i++) {
            x.buys(2);
            x.buys(1);
            x.undo();
        }
        Says.is("the oldest one is gone, though the latest is undone", x.count(11) + " " + x.count(4) + " " + x.undo() + " " + x.count(4),
                "14 62 13 60");

        Says.of(18, "such as were done");
        FishFerry y = Check.ferry(OPEN, "t9;e1", "");
        y.hours(61);
        y.promise(1, 0, 0);
        y.promise(2, 0, 0);
        y.takesBack(0);
        y.letsGo(2);
        y.buys(80);
        Check.put(y, "1000").oar();
        Check.put(y, "l9n1").day();
        Check.put(y, "x").day();
        Check.put(y, "").day();
        Says.is("none that was refused", y.count(11) + " " + y.undo(), "0 -1");
        Says.is("no HOURS are done", y.hours(0) + " " + y.count(11), "0 1");

        Says.of(18, "day() of which one act was done, as one)");
        Check.put(y, "b1b1b1l9b1").day();
        Says.is(y.count(4) + " " + y.count(11) + " " + y.undo() + " " + y.count(4), "23 2 1 20");

        Says.of(18, "Refused: none.");
        FishFerry none = Check.ferry("", "t9", "");
        String before = held(none);
        Says.is(none.undo() + " " + held(none), "-1 " + before);
    }

    private static void forgets() {
        Says.of(18, "(lake(), fish() and again() forget them, if they are not refused; an empty fish() does not.)");
        FishFerry x = Check.ferry("", "t9", "0000");
        x.keep(0);
        x.buys(1);
        Check.put(x, "22...").lake();
        Check.put(x, "").lake();
        Check.put(x, "t0").fish();
        Check.put(x, "").fish();
        x.again(1);
        x.again(3);
        Says.is("refused ones", x.count(11), 2);
        Says.is("again()", x.again(0) + " " + x.count(11) + " " + x.undo(), "true 0 -1");
        x.buys(1);
        Says.is("fish()", Check.put(x, "t1").fish() + " " + x.count(11) + " " + x.undo(), "1 0 -1");
        x.buys(1);
        Says.is("lake()", Check.put(x, "22....").lake() + " " + x.count(11) + " " + x.undo(), "4 0 -1");
    }
}
