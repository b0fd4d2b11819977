/** Promises 12 to 18: hours, promises, days, undo. */
public final class HoursTest {
    private HoursTest() {
    }

    private static void towedAndKept() {
        FishFerry x = Check.ferry("33.........", "t3", "0024");
        Check.is("hours below 0", x.hours(-1), -1);
        Check.is("hours above 60", x.hours(61), -1);
        Check.is("only the oar can be undone", x.count(11), 1);
        Check.tells("no hours", x, x.hours(0), "0 [0, 0, 0]");
        Check.tells("two hours", x, x.hours(2), "2 [1, 0, 0]");
        Check.is("STORE, KEPT, BROKEN, HOUR", "" + x.count(4) + x.count(5) + x.count(6) + x.count(7), "16102");
        Check.is("TIRED, TRUST, GOAL, CRUMBS", "" + x.one(0, 2) + x.one(0, 3) + x.one(0, 5) + x.one(0, 6), "26-1-1");
        Check.tells("an hour more", x, x.hours(1), "2 [0, 0, 1]");
        Check.is("TIRED is less", x.one(0, 2), 1);
        Check.tells("sixty", x, x.hours(60), "2 [0, 0, 60]");
        Check.is("TIRED 0 at least", x.one(0, 2), 0);
    }

    private static void broken() {
        FishFerry x = Check.ferry("22....", "t1;s1;p1", "0009;1009;2009");
        Check.tells("kept and broken by their numbers", x, x.hours(1), "0 [2, 1, 1]");
        Check.is("STORE, KEPT, BROKEN", "" + x.count(4) + " " + x.count(5) + x.count(6), "2 21");
        Check.is("TRUST", "" + x.one(0, 3) + x.one(1, 3) + x.one(2, 3), "660");
        Check.is("no PROMISE is left", "" + x.one(0, 5) + x.one(1, 5) + x.one(2, 5), "-1-1-1");
        Check.is("no TRUST", x.promise(2, 0, 0), -4);
        x.keep(0);
        x.undo();
        Check.is("undone", "" + x.count(4) + " " + x.count(5) + x.count(6), "20 00");
        x.again(0);
        Check.is("again", "" + x.count(4) + " " + x.count(5) + x.count(6), "2 21");
        x.letsGo(0);
        x.promise(0, 0, 0);
        Check.tells("one who does not HOLD is kept its PROMISE", x, x.hours(1), "0 [1, 0, 1]");
    }

    private static void tiring() {
        // A rock to the right: the trout pulls in vain and tires, s - d at last 0.
        FishFerry x = Check.ferry("23.#....", "t9", "0020");
        StringBuilder tired = new StringBuilder();
        for (int i = 0; i < 12; i++) {
            x.hours(1);
            tired.append(x.one(0, 2));
        }
        Check.is("TIRED by hours", tired, "123456789898");
        Check.is("PULL", x.one(0, 7), 1);
        Check.is("BOAT stuck", x.count(3), 0);
        Check.put(x, "9").rule();
        x.hours(3);
        Check.is("TIRED 9 at most", x.one(0, 2), 9);
    }

    private static void trustAtMost() {
        FishFerry x = Check.ferry("22....", "t1", "");
        for (int i = 0; i < 6; i++) {
            x.promise(0, 0, 0);
            x.hours(1);
        }
        Check.is("TRUST 9 at most", x.one(0, 3), 9);
        Check.is("KEPT", x.count(5), 6);
    }

    private static void fewerThanAllWays() {
        // Up and left lead out of the lake: it sticks there though right is free.
        FishFerry x = Check.ferry("33.........", "p9;t5", "0200;1010");
        Check.is("the most, not the free one", x.towed(), -2);
        x.letsGo(0);
        Check.is("now right", x.towed(), 1);
        FishFerry y = Check.ferry("33.........", "t4;t4", "0020;1200");
        Check.tells("of equal ones the first", y, y.towed(), "1 [-4, 4, 4, -4]");
        FishFerry z = Check.ferry("33.........", "s5", "0220");
        Check.tells("a shoal by halves", z, z.towed(), "1 [-2, 2, 2, -2]");
        FishFerry one = Check.ferry("33.........", "s1", "0220");
        Check.tells("half of 1 is none", one, one.towed(), "-2 [0, 0, 0, 0]");
        Check.is("yet it has PULL", "" + one.one(0, 7) + one.one(0, 8), "14");
        one.hours(1);
        Check.is("and tires", one.one(0, 2), 1);
    }

    private static void promises() {
        FishFerry x = Check.ferry("22....", "t1;e1;s1", "");
        Check.is("promise", x.promise(0, 3, 9), 1);
        Check.is("promise", x.promise(2, 2, 0), 2);
        Check.is("promise anew", x.promise(2, 1, 5), 2);
        Check.is("instead", "" + x.one(2, 5) + x.one(2, 6), "15");
        Check.is("an eel", x.promise(1, 3, 0), -3);
        Check.is("an eel, no such field", x.promise(1, 4, 0), -1);
        Check.is("an eel, too many crumbs", x.promise(1, 3, 10), -1);
        Check.is("no such fish", "" + x.promise(3, 0, 0) + x.promise(-1, 0, 0), "-1-1");
        Check.is("no such field", "" + x.promise(0, 4, 0) + x.promise(0, -1, 0), "-1-1");
        Check.is("crumbs", "" + x.promise(0, 0, -1) + x.promise(0, 0, 10), "-1-1");
        Check.is("three were done", x.count(11), 3);
        Check.is("taken back", x.takesBack(0), 2);
        Check.is("none", x.takesBack(0), -2);
        Check.is("none such", "" + x.takesBack(3) + x.takesBack(-1), "-1-1");
        x.promise(0, 3, 9);
        Check.is("taken back again", x.takesBack(0), 0);
        Check.is("no TRUST", x.promise(0, 3, 9), -4);
        Check.is("no TRUST, no field", x.promise(0, 4, 9), -1);
        Check.is("lets go", x.letsGo(1), 2);
        Check.is("HOLDING", x.count(9), 5);
        Check.is("lets go", x.letsGo(0), 1);
        Check.is("takes hold", x.letsGo(1), 2);
        Check.is("none such", "" + x.letsGo(3) + x.letsGo(-1), "-1-1");
    }

    private static void crumbs() {
        FishFerry x = new FishFerry();
        Check.is("buys", "" + x.buys(0) + x.buys(-1) + x.buys(100), "-1-1-1");
        Check.is("too many", x.buys(80), -3);
        Check.is("as many as can be", x.buys(79), 99);
        Check.is("one more", x.buys(1), -3);
        Check.is("one was done", x.count(11), 1);
        FishFerry empty = Check.ferry("22....", "t1;t1;t1", "0009;1009;2002");
        empty.hours(1);
        Check.is("99 at once", empty.buys(99), 99);
    }

    private static void dayFaults() {
        FishFerry x = Check.ferry("22....", "t9", "");
        String[] bad = {"n", "x", "nn", "p", "p0", "p00", "p000", "p000x", "t", "l", "b", "b0", "n1;", "n1b", "n1 ", "p0000n1x", "N1"};
        int[] place = {1, 0, 1, 1, 2, 3, 4, 4, 1, 1, 1, 1, 2, 3, 2, 7, 0};
        for (int i = 0; i < bad.length; i++) {
            Check.is("day " + bad[i], Check.put(x, bad[i]).day(), -1 - place[i]);
            Check.is("nothing is done, nothing told", "" + x.count(7) + x.count(11) + x.count(12) + x.count(13), "0000");
        }
        Check.is("60 signs", Check.put(x, "n0".repeat(30)).day(), 30);
        Check.is("61 signs", Check.put(x, "n0".repeat(30) + "n").day(), -61);
        Check.is("62 signs", Check.put(x, "n0".repeat(30) + "n0").day(), -61);
        Check.is("61 signs that go on", Check.put(x, "n0".repeat(28) + "p0000").day(), -61);
        Check.is("60 signs that end too early", Check.put(x, "n0".repeat(28) + "p000").day(), -61);
        Check.is("a fault ahead of 60", Check.put(x, "n0".repeat(29) + "x0n0").day(), -59);
    }

    private static void days() {
        FishFerry x = Check.ferry("33.........", "t5;e5", "");
        Check.tells("a day", x, Check.put(x, "b1b8p0024n2l1l1").day(), "6 [0, 2]");
        Check.is("STORE, KEPT, HOUR", x.count(4) + " " + x.count(5) + x.count(7), "25 12");
        Check.is("as one", x.count(11), 1);
        Check.tells("nothing", x, Check.put(x, "").day(), "0 [0, 2]");
        Check.is("nothing to undo of it", x.count(11), 1);
        String before = Check.state(x);
        String[] refused = {"t0", "t9", "l9", "p1000", "p0300", "p0030", "p9000"};
        for (String act : refused) {
            Check.tells("refused " + act, x, Check.put(x, act + "n1").day(), "0 [1, 2]");
            Check.is("nothing done by " + act, Check.state(x), before);
        }
        Check.tells("refused at last", x, Check.put(x, "b9b9b9b9b9b9b9b9b9b9n9").day(), "8 [1, 2]");
        Check.is("STORE", x.count(4), 97);
        Check.is("HOUR", x.count(7), 2);
        Check.is("undo of what was done", x.undo(), 1);
        Check.is("as ahead", Check.state(x), before);
        Check.is("undo of the first day", x.undo(), 0);
        Check.is("all as at first", "" + x.count(3) + x.count(4) + x.count(5) + x.count(7) + x.one(0, 2), "020000");
        Check.tells("no hours are done, too", x, Check.put(x, "n0").day(), "1 [0, 0]");
        Check.is("and can be undone", x.count(11), 1);
    }

    private static void undos() {
        FishFerry x = Check.ferry("33.........", "t5;s4", "");
        Check.is("nothing to undo", x.undo(), -1);
        for (int i = 0; i < 17; i++) {
            x.buys(1);
        }
        Check.is("fifteen at most", x.count(11), 15);
        for (int i = 14; i >= 0; i--) {
            Check.is("undo", x.undo(), i);
        }
        Check.is("the latest ones", x.count(4), 22);
        Check.is("none is left", x.undo(), -1);

        String[] states = new String[6];
        states[0] = ahead(x);
        Check.put(x, "0022;1211").oar();
        states[1] = ahead(x);
        x.hours(3);
        states[2] = ahead(x);
        x.promise(1, 0, 3);
        states[3] = ahead(x);
        x.letsGo(0);
        states[4] = ahead(x);
        x.takesBack(1);
        states[5] = ahead(x);
        x.takesBack(1);
        x.promise(9, 9, 9);
        x.buys(0);
        x.hours(99);
        x.letsGo(9);
        Check.is("refused ones are not kept", x.count(11), 5);
        for (int i = 4; i >= 0; i--) {
            Check.is("undo", x.undo(), i);
            Check.is("as ahead of it", ahead(x), states[i]);
        }
    }

    /** The state without what can be undone, which an undo itself changes. */
    private static String ahead(FishFerry x) {
        StringBuilder all = new StringBuilder();
        for (int what : new int[] {3, 4, 5, 6, 7, 9}) {
            all.append(x.count(what)).append(' ');
        }
        for (int fish = 0; fish < x.count(2); fish++) {
            for (int what = 2; what < 9; what++) {
                all.append(x.one(fish, what)).append(' ');
            }
        }
        return all.toString();
    }

    private static void undoLeavesAlone() {
        FishFerry x = Check.ferry("22....", "t5", "0110");
        x.buys(3);
        x.sheet(2, 1, 8, 0);
        Check.put(x, "7").fog();
        Check.put(x, "s-3").rule();
        x.seen(0, 0, 1);
        Check.is("they are no acts", x.count(11), 2);
        Check.is("undo", x.undo(), 1);
        Check.is("STRENGTH, FOG, RULE, what was seen stay", "" + x.one(0, 1) + x.count(8) + x.one(0, 7) + x.count(10), "8751");
    }

    public static void main(String[] args) {
        towedAndKept();
        broken();
        tiring();
        trustAtMost();
        fewerThanAllWays();
        promises();
        crumbs();
        dayFaults();
        days();
        undos();
        undoLeavesAlone();
        Check.finish();
    }
}
