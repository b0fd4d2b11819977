/** Promises 19 to 29: where the boat goes, whom to promise, what can be kept. */
public final class GoesTest {
    private static final String OPEN = "33.........";

    private GoesTest() {
    }

    private static void towed() {
        FishFerry x = Check.ferry("33....#....", "t5;p3;s6", "0220;1010;2220");
        Check.tells("toward the corner", x, x.towed(), "2 [-8, 0, 8, 0]");
        FishFerry y = Check.ferry(OPEN, "t5;t3", "0020;1200");
        Check.tells("right over down", y, y.towed(), "1 [-3, 5, 3, -5]");
        Check.tells("once more", y, y.towed(), "1 [-3, 5, 3, -5]");
        Check.is("questions change nothing", "" + y.count(3) + y.count(7) + y.count(11), "001");
        FishFerry rock = Check.ferry("22.#..", "t5", "0010");
        Check.tells("a rock", rock, rock.towed(), "-2 [0, 5, 0, -5]");
        FishFerry edge = Check.ferry("22....", "p5", "0010");
        Check.tells("no field", edge, edge.towed(), "-2 [0, -5, 0, 5]");
    }

    private static void ahead() {
        FishFerry x = Check.ferry(OPEN, "t3;t9", "0024");
        Check.is("no such n", "" + x.ahead(-1) + x.ahead(100), "-1-1");
        Check.is("nothing told", x.count(12), 0);
        Check.tells("now", x, x.ahead(0), "0 [20, 0, 0]");
        Check.tells("in an hour", x, x.ahead(1), "1 [20, 0, 0]");
        Check.tells("in two", x, x.ahead(2), "2 [16, 1, 0]");
        Check.tells("in 99", x, x.ahead(99), "2 [16, 1, 0]");
        Check.is("nothing changed", "" + x.count(3) + x.count(4) + x.count(7) + x.one(0, 2) + x.one(0, 5), "020002");
        FishFerry y = Check.ferry("22....", "t1;t1;t1", "0009;1009;2009");
        Check.tells("broken ahead", y, y.ahead(1), "0 [2, 2, 1]");
    }

    private static void comes() {
        FishFerry x = Check.ferry(OPEN, "t3", "0024");
        Check.is("none such", "" + x.comes(-1) + x.comes(9), "-1-1");
        Check.tells("now", x, x.comes(0), "0 [20]");
        Check.tells("on its way", x, x.comes(1), "1 [20]");
        Check.tells("there", x, x.comes(2), "2 [16]");
        Check.is("never", x.comes(8), -2);
        Check.is("nothing told then", Check.row(x), "[16]");
    }

    /** A boat that is towed in no hour but the last one that is looked at, or behind it. */
    private static void farAhead() {
        FishFerry x = Check.ferry("22....", "t9", "0010");
        Check.put(x, "f").rule();
        Check.put(x, "00000000000000000009").fog();
        Check.is("when FOG is 9", x.comes(1), 20);
        Check.tells("it sticks ahead of that", x, x.sticks(), "0 [0]");
        x.hours(19);
        Check.is("in this HOUR", x.comes(1), 1);
        x.hours(0);
        Check.tells("then there", x, x.sticks(), "1 [1]");
    }

    private static void comesInTime() {
        // PULL is above 0 in HOURS 99 and 100 alone, of those that are near: 20 digits against 7.
        FishFerry x = Check.ferry("22....", "t9", "0010");
        Check.put(x, "f*(n=1)").rule();
        Check.put(x, "00000000000000000009").fog();
        Check.is("HOUR 99 is the first with both", x.comes(1), -2);
        x.hours(1);
        Check.is("its end is 99 hours ahead", x.comes(1), 99);
        Check.tells("ahead", x, x.ahead(99), "1 [20, 1, 0]");
        Check.tells("ahead", x, x.ahead(98), "0 [20, 0, 0]");
        Check.tells("track", x, x.track(99), "3 [2, 98]");
        Check.tells("track", x, x.track(98), "1 [1, 98]");
        Check.tells("fates", x, x.fates(99), "1 [0, 0]");
        Check.tells("fates", x, x.fates(98), "0 [0, 1]");
    }

    private static void sticks() {
        FishFerry x = Check.ferry("22....", "t9;t9", "0010;1010");
        Check.tells("it comes, then it sticks", x, x.sticks(), "1 [1]");
        FishFerry y = Check.ferry("22....", "p9", "0000");
        Check.tells("at once", y, y.sticks(), "0 [0]");
        FishFerry z = Check.ferry("26............", "t9", "0050");
        Check.put(z, "n<3").rule();
        Check.tells("when n is 3", z, z.sticks(), "3 [3]");
    }

    /** PULL to and fro by FOG, but for its last digit. */
    private static void sticksLate() {
        FishFerry x = Check.ferry("26............", "t1;p1", "0050;1050");
        Check.put(x, "01010101010101010102").fog();
        Check.put(x, "(k=f)*5").rule();
        Check.tells("at the twentieth", x, x.sticks(), "19 [1]");
        x.hours(20);
        Check.is("BOAT", x.count(3), 1);
        // It sticks in HOURS 99, 239, .. alone: FOG 2 and n 1.
        FishFerry y = Check.ferry("26............", "t1;p1", "0050;1050");
        Check.put(y, "01010101010101010102").fog();
        Check.put(y, "(k=f)+k*(f=2)*(1-(n=1))").rule();
        Check.tells("in the last one", y, y.sticks(), "99 [1]");
        y.hours(60);
        y.hours(60);
        y.hours(19);
        Check.is("one too far", y.sticks(), -2);
        y.hours(1);
        Check.is("in the last one", y.sticks(), 99);
    }

    private static void neverSticks() {
        // By FOG the trout pulls right, then the pike left: 0, 1, 0, 1, ..
        FishFerry x = Check.ferry("26............", "t1;p1", "0050;1050");
        Check.put(x, "01").fog();
        Check.put(x, "(k=f)*5").rule();
        Check.is("to and fro", x.sticks(), -2);
        Check.tells("two fields", x, x.track(99), "3 [2, 0]");
        Check.tells("track of one", x, x.track(1), "3 [2, 0]");
        Check.is("no such n", "" + x.track(0) + x.track(100) + x.track(-1), "-1-1-1");
        Check.is("a row stays", Check.row(x), "[2, 0]");
    }

    private static void sends() {
        FishFerry x = Check.ferry(OPEN, "t2;t3;e9;t4", "");
        Check.is("others", "" + x.sends(-1, 0, 1) + x.sends(9, 0, 1) + x.sends(1, -1, 1) + x.sends(1, 10, 1) + x.sends(1, 0, 0)
                + x.sends(1, 0, 21), "-1-1-1-1-1-1");
        Check.tells("it is there", x, x.sends(0, 9, 1), "0 [0, 0]");
        Check.tells("any one will do, the least", x, x.sends(1, 0, 1), "1 [1, 1]");
        // Only the trout of 4 has PULL yet in the fourth hour.
        Check.tells("far", x, x.sends(8, 0, 4), "1 [8, 4]");
        Check.is("too far", x.sends(8, 0, 3), -2);
        Check.is("a row stays", Check.row(x), "[8, 4]");
        // A trout of 4 pulls to the left edge: two of 2 and 3 are needed, or a third part.
        FishFerry y = Check.ferry(OPEN, "t2;t3;e9;p4", "3020");
        Check.tells("two against one", y, y.sends(1, 0, 1), "2 [3, 1]");
        y.letsGo(3);
        Check.tells("as it let go", y, y.sends(1, 0, 1), "1 [1, 1]");
        Check.is("nothing changed", "" + y.one(0, 5) + y.one(1, 5) + y.one(3, 5) + y.count(3), "-1-120");
        FishFerry eel = Check.ferry(OPEN, "e9", "");
        Check.is("no eels", eel.sends(1, 0, 20), -2);
        FishFerry wary = Check.ferry(OPEN, "t9", "");
        wary.promise(0, 1, 0);
        wary.takesBack(0);
        wary.promise(0, 1, 0);
        wary.takesBack(0);
        Check.is("with TRUST", wary.sends(1, 0, 20), -2);
        FishFerry comes = Check.ferry(OPEN, "t5", "0010");
        Check.tells("it comes so", comes, comes.sends(1, 0, 20), "0 [0, 1]");
        FishFerry late = Check.ferry("22....", "t9", "");
        Check.put(late, "f").rule();
        Check.put(late, "00000000000000000009").fog();
        Check.tells("behind the twentieth", late, late.sends(1, 0, 20), "1 [1, 20]");
        Check.is("not behind the nineteenth", late.sends(1, 0, 19), -2);
        FishFerry eight = Check.ferry("22....", "t1;t1;t1;t1;t1;t1;t1;t1", "");
        Check.put(eight, "g*0").rule();
        Check.is("none pulls", eight.sends(1, 0, 20), -2);
        Check.put(eight, "c").rule();
        Check.put(eight, "0109;1109;2109;3109;4109;5109;6109;7109").oar();
        Check.tells("all eight: one of 9 is more than seven of 1", eight, eight.sends(1, 1, 1), "8 [255, 1]");
        FishFerry all = Check.ferry("22....", "p7;t1;t1;t1;t1;t1;t1;t1", "0010");
        Check.put(all, "(k=1)*6+(k=0)").rule();
        Check.tells("the seven others, or the pike away", all, all.sends(1, 0, 1), "7 [254, 1]");
        FishFerry up = Check.ferry("22....", "p7;t1;t1;t1;t1;t1;t1;t1", "0100");
        Check.put(up, "(k=1)+(k=0)").rule();
        Check.tells("the pike the other way round", up, up.sends(2, 0, 1), "2 [6, 1]");
    }

    private static void cheapest() {
        FishFerry x = Check.ferry(OPEN, "t1;t1;t1", "");
        Check.is("others", "" + x.cheapest(-1, 1) + x.cheapest(9, 1) + x.cheapest(1, 0) + x.cheapest(1, 21), "-1-1-1-1");
        Check.tells("there", x, x.cheapest(0, 1), "0 [0, 0]");
        Check.tells("for nothing", x, x.cheapest(1, 1), "0 [0, 1]");
        // They pull only for more than 3 crumbs each, and two must pull against a pike of 1.
        FishFerry y = Check.ferry(OPEN, "t1;t1;t1;p1", "3020");
        Check.put(y, "(k=1)+(k=0)*(c>3)").rule();
        Check.tells("two of 4", y, y.cheapest(1, 1), "8 [4, 3]");
        // More crumbs, more pull: one of 6 is as dear as two of 3, and 3 is the least.
        Check.put(y, "(k=1)*5+(k=0)*c").rule();
        Check.tells("of as much the least c", y, y.cheapest(1, 1), "6 [2, 7]");
        Check.is("by none", y.cheapest(8, 3), -2);
        Check.is("a row stays", Check.row(y), "[2, 7]");
        Check.put(y, "(k=1)*8+(k=0)*(c=9)*9").rule();
        Check.tells("one of 9", y, y.cheapest(1, 1), "9 [9, 1]");
        Check.put(y, "(k=1)*2+(k=0)*((c>2)*9+(c=2)*2)").rule();
        Check.tells("one of 3 is less than two of 2", y, y.cheapest(1, 1), "3 [3, 1]");
        Check.put(y, "(k=1)*(c=0)*8+c").rule();
        Check.tells("a crumb for the pike, too, that it pulls less", y, y.cheapest(1, 1), "3 [1, 11]");
        Check.put(y, "(k=1)*9").rule();
        Check.is("by none for all crumbs", y.cheapest(1, 20), -2);
    }

    private static void matters() {
        FishFerry x = Check.ferry(OPEN, "t9;t3;t4", "");
        Check.is("none such", x.matters(1), -2);
        Check.is("another n", "" + x.matters(0) + x.matters(61) + x.matters(60), "-1-1-2");
        Check.put(x, "0220;1020;2200").oar();
        // All: down, down, right, right to 8. Without 0: down (4 against 3), ..
        x.letsGo(0);
        Check.is("down", x.towed(), 2);
        x.letsGo(0);
        Check.tells("the first that counts", x, x.matters(1), "0 [0]");
        FishFerry y = Check.ferry(OPEN, "t4;t9", "0200;1020");
        Check.tells("the second one", y, y.matters(2), "1 [4]");
        y.letsGo(1);
        Check.tells("HOLDING alone", y, y.matters(2), "0 [2]");
        y.letsGo(0);
        Check.is("none HOLDING", y.matters(2), -2);
    }

    private static void keeps() {
        FishFerry x = Check.ferry("22....", "t1;t1;t1;t1", "");
        Check.tells("none", x, x.keeps(), "0 [0, 20]");
        Check.put(x, "0119;1119;2115;3115").oar();
        Check.tells("three of four, the fewest crumbs, the least bits", x, x.keeps(), "3 [13, 1]");
        Check.tells("owed", x, x.owed(), "28 [8, 15]");
        x.buys(8);
        Check.tells("all", x, x.keeps(), "4 [15, 0]");
        Check.tells("owed", x, x.owed(), "28 [0, 15]");
        x.takesBack(1);
        Check.tells("owed", x, x.owed(), "19 [0, 13]");
        FishFerry y = Check.ferry("22....", "t1;t1;t1", "0009;1009;2002");
        y.hours(1);
        Check.is("none is left", y.count(4), 0);
        Check.put(y, "0110;1113;2110").oar();
        Check.tells("for nothing", y, y.keeps(), "2 [5, 0]");
        FishFerry z = Check.ferry("22....", "t1;t1;t1;t1;t1", "0119;1119;2111;3112;4119");
        Check.tells("more of them for more", z, z.keeps(), "3 [13, 8]");
    }

    private static void fates() {
        FishFerry x = Check.ferry("22....", "t9;t1;t9;t1", "0017;1017;2017;3110");
        Check.is("another n", "" + x.fates(0) + x.fates(100), "-1-1");
        Check.tells("kept, broken, yet", x, x.fates(1), "3 [4, 8]");
        Check.is("nothing changed", "" + x.count(3) + x.count(4) + x.one(2, 3), "0205");
        Check.tells("the same again", x, x.fates(1), "3 [4, 8]");
        x.hours(1);
        Check.tells("later", x, x.fates(1), "0 [0, 8]");
    }

    public static void main(String[] args) {
        towed();
        ahead();
        comes();
        farAhead();
        comesInTime();
        sticks();
        sticksLate();
        neverSticks();
        sends();
        cheapest();
        matters();
        keeps();
        fates();
        Check.finish();
    }
}
