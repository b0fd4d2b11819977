/** Promises 1 to 11: the lake, fish, promises, fog. */
public final class LakeTest {
    private static final String EIGHT = "t1;t2;t3;t4;p5;p6;s7;s8";

    private LakeTest() {
    }

    private static FishFerry fresh() {
        return new FishFerry();
    }

    private static void aNewObject() {
        FishFerry x = fresh();
        long[] due = {2, 2, 0, 0, 20, 0, 0, 0, 0, 0, 0, 0, 0, 0};
        for (int what = 0; what < due.length; what++) {
            Check.is("new: count(" + what + ")", x.count(what), due[what]);
        }
        for (int field = 0; field < 4; field++) {
            Check.is("new: rock at " + field, x.field(field, 0), 0);
        }
        Check.is("new: no field 4", Check.throwsOnField(x, 4, 0), true);
        Check.is("NONE", FishFerry.NONE, -1);
    }

    private static void signs() {
        FishFerry x = fresh();
        for (int i = 1; i <= 20; i++) {
            Check.is("sign", x.sign(0x74357439), 4 * i);
        }
        Check.is("sign beyond 80", x.sign(0), -1);
        Check.is("signs stay", x.count(13), 80);
        Check.is("end below 0", x.end(-1), false);
        Check.is("end beyond", x.end(81), false);
        Check.is("end at all", x.end(80), true);
        Check.is("end at 2", x.end(2), true);
        Check.is("signs now", x.count(13), 2);
        Check.is("end at 3 of 2", x.end(3), false);
        Check.is("highest byte first", x.fish(), 1);
        Check.is("strength 5", x.one(0, 1), 5);
        Check.is("the text is empty", x.count(13), 0);
        Check.is("end of nothing", x.end(0), true);
    }

    private static void lakes() {
        FishFerry x = fresh();
        String[] bad = {"", "1", "7", "2", "27", "22...", "22.....", "22.x..", "22", "2a....", ".2....", "66"};
        int[] place = {0, 0, 0, 1, 1, 5, 6, 3, 2, 1, 0, 2};
        for (int i = 0; i < bad.length; i++) {
            Check.is("lake " + bad[i], Check.put(x, bad[i]).lake(), -1 - place[i]);
            Check.is("its text is gone", x.count(13), 0);
            Check.is("ROWS stay", x.count(0), 2);
        }
        Check.is("lake 23", Check.put(x, "23.#.#..").lake(), 6);
        Check.is("ROWS", x.count(0), 2);
        Check.is("COLUMNS", x.count(1), 3);
        Check.is("rocks", "" + x.field(0, 0) + x.field(1, 0) + x.field(2, 0) + x.field(3, 0) + x.field(4, 0) + x.field(5, 0), "010100");
        Check.is("the largest", Check.put(x, "66" + ".".repeat(36)).lake(), 36);
        Check.is("one too many", Check.put(x, "66" + ".".repeat(37)).lake(), -39);
        Check.is("its last field", x.field(35, 0), 0);
        Check.is("BOAT on a rock", Check.put(x, "22#...").lake(), 4);
        Check.is("BOAT on a rock", "" + x.field(0, 0) + x.field(0, 1), "11");
    }

    private static void lakeAnew() {
        FishFerry x = Check.ferry("33.........", "t5;s5", "0022;1111");
        Check.put(x, "57").fog();
        x.hours(3);
        x.buys(7);
        x.keep(0);
        x.seen(1, 1, 1);
        int store = x.count(4);
        int kept = x.count(5);
        Check.is("BOAT is away, a fish is tired", x.count(3) > 0 && x.one(1, 2) > 0, true);
        Check.is("refused", Check.put(x, "33........").lake(), -11);
        Check.is("nothing changed", "" + x.count(2) + x.count(7) + x.count(10) + x.count(11), "2313");
        Check.is("lake anew", Check.put(x, "22....").lake(), 4);
        Check.is("FISH, BOAT, STORE, KEPT, BROKEN, HOUR, FOG, HOLDING, seen, undone",
                x.count(2) + " " + x.count(3) + " " + x.count(4) + " " + x.count(5) + " " + x.count(6) + " " + x.count(7)
                + " " + x.count(8) + " " + x.count(9) + " " + x.count(10) + " " + x.count(11),
                "0 0 " + store + " " + kept + " 0 0 5 0 0 0");
        Check.is("nothing is kept", x.again(0), false);
        Check.is("nothing to undo", x.undo(), -1);
        Check.put(x, "t1;t1").fish();
        Check.is("new fish are as at first", "" + x.one(1, 2) + x.one(1, 3) + x.one(1, 4) + x.one(1, 5), "051-1");
    }

    private static void fish() {
        FishFerry x = fresh();
        Check.is("four kinds", Check.put(x, "t1;p2;e3;s9").fish(), 4);
        for (int i = 0; i < 4; i++) {
            Check.is("KIND", x.one(i, 0), i);
            Check.is("STRENGTH", x.one(i, 1), new int[] {1, 2, 3, 9}[i]);
            Check.is("TIRED, TRUST, HOLDING, GOAL, CRUMBS, PULL, way", "" + x.one(i, 2) + x.one(i, 3) + x.one(i, 4)
                    + x.one(i, 5) + x.one(i, 6) + x.one(i, 7) + x.one(i, 8), "051-1-10-1");
        }
        String[] bad = {"t", "t0", "x1", "T1", "t1;", "t1 ", "t1p2", "t1;;", ";", "t1;p2;ee", "t1;p2;e3;s4;t5"};
        int[] place = {1, 1, 0, 0, 3, 2, 2, 3, 0, 7, 12};
        for (int i = 0; i < bad.length; i++) {
            Check.is("fish " + bad[i], Check.put(x, bad[i]).fish(), -1 - place[i]);
            Check.is("none came", x.count(2), 4);
            Check.is("its text is gone", x.count(13), 0);
        }
        Check.is("four more", Check.put(x, "t1;t1;t1;t1").fish(), 4);
        Check.is("its text is gone", x.count(13), 0);
        Check.is("no room", Check.put(x, "t1").fish(), -1);
        Check.is("nothing", Check.put(x, "").fish(), 0);
        Check.is("eight at once", Check.put(fresh(), EIGHT).fish(), 8);
        Check.is("a sign behind 23", Check.put(fresh(), EIGHT + ";").fish(), -24);
        Check.is("another sign behind 23", Check.put(fresh(), EIGHT + "t").fish(), -24);
        Check.is("more than 23 with a fault ahead", Check.put(fresh(), "t1;x" + EIGHT).fish(), -4);
        Check.is("23 signs that end too early", Check.put(fresh(), EIGHT.substring(0, 22)).fish(), -23);
    }

    private static void fishForgetUndo() {
        FishFerry x = Check.ferry("", "t5", "");
        x.letsGo(0);
        x.keep(1);
        Check.put(x, "").fish();
        Check.put(x, "t").fish();
        Check.is("an empty or refused one forgets nothing", x.count(11), 1);
        Check.is("what is kept stays", x.again(1), true);
        x.letsGo(0);
        Check.put(x, "t1").fish();
        Check.is("fish forget what can be undone", x.count(11), 0);
        Check.is("and what is kept", x.again(1), false);
    }

    private static void oars() {
        FishFerry x = Check.ferry("23......", "t5;e5;s5", "");
        String[] bad = {"3000", "1000", "x", "0200", "0x", "0030", "00x", "000", "000x", "0", "00", "0000;", "0000 ", "0000;1"};
        int[] place = {0, 0, 0, 1, 1, 2, 2, 3, 3, 1, 2, 5, 4, 5};
        for (int i = 0; i < bad.length; i++) {
            Check.is("oar " + bad[i], Check.put(x, bad[i]).oar(), -1 - place[i]);
            Check.is("no PROMISE", x.one(0, 5), -1);
            Check.is("nothing to undo", x.count(11), 0);
        }
        Check.is("oar", Check.put(x, "0127;2003;0018").oar(), 3);
        Check.is("its text is gone", x.count(13), 0);
        Check.is("the later ones", "" + x.one(0, 5) + x.one(0, 6) + x.one(2, 5) + x.one(2, 6), "1803");
        Check.is("to be undone", x.count(11), 1);
        Check.is("another oar", Check.put(x, "2111").oar(), 1);
        Check.is("the others' stay", "" + x.one(0, 5) + x.one(0, 6) + x.one(2, 5) + x.one(2, 6), "1841");
        Check.is("nothing", Check.put(x, "").oar(), 0);
        Check.is("nothing to be undone of it", x.count(11), 2);
        Check.is("undo", x.undo(), 1);
        Check.is("as ahead", "" + x.one(2, 5) + x.one(2, 6), "03");
        String twelve = "0000" + ";0000".repeat(11);
        Check.is("twelve", Check.put(x, twelve).oar(), 12);
        Check.is("thirteen", Check.put(x, twelve + ";0000").oar(), -61);
        Check.is("twelve and an end", Check.put(x, twelve + ";").oar(), -61);
        Check.is("twelve and more", Check.put(x, twelve + "0").oar(), -60);
        x.takesBack(0);
        x.promise(0, 0, 0);
        Check.is("TRUST 0", x.takesBack(0), 0);
        Check.is("no TRUST", Check.put(x, "2000;0000").oar(), -6);
        FishFerry wary = Check.ferry("22....", "t1", "0000");
        wary.takesBack(0);
        wary.promise(0, 0, 0);
        wary.hours(1);
        wary.promise(0, 0, 0);
        wary.hours(1);
        wary.promise(0, 0, 0);
        Check.is("TRUST 1", wary.takesBack(0), 1);
        Check.is("TRUST 1 is enough", Check.put(wary, "0010").oar(), 1);
        Check.is("TRUST 1 is enough", wary.sends(2, 0, 1), 1);
        FishFerry rock = Check.ferry("22...#", "t1", "");
        Check.is("a rock as GOAL", Check.put(rock, "0110").oar(), 1);
    }

    private static void fogs() {
        FishFerry x = fresh();
        String[] bad = {"", "a", "12a", "1 ", "0".repeat(21), "0".repeat(20) + "x", "0".repeat(40)};
        int[] place = {0, 0, 2, 1, 20, 20, 20};
        Check.is("fog", Check.put(x, "9").fog(), 1);
        for (int i = 0; i < bad.length; i++) {
            Check.is("fog " + bad[i], Check.put(x, bad[i]).fog(), -1 - place[i]);
            Check.is("FOG stays", x.count(8), 9);
            Check.is("its text is gone", x.count(13), 0);
        }
        x.hours(1);
        Check.is("one digit for all HOURS", x.count(8), 9);
        x.undo();
        Check.is("fog", Check.put(x, "507").fog(), 3);
        StringBuilder seen = new StringBuilder();
        for (int i = 0; i < 5; i++) {
            seen.append(x.count(8));
            x.hours(1);
        }
        Check.is("FOG by the HOUR", seen, "50750");
        Check.is("twenty", Check.put(x, "0".repeat(20)).fog(), 20);
    }

    private static void ruleFaults() {
        FishFerry x = Check.ferry("33.........", "t5", "0020");
        String[] bad = {"z", "s+", "1<2<3", "1<2+3=4", "(((((1)))))", "1000", "()", "1)", "(1", "(1<2<3)", "s5", "5s", "s(",
            "*1", "+1", "1**1", "1//1", " 1", "1 ", ")", "-", "1--", "(1)(", "12a", "(1<2)=3>4", "1<2>", "(1)1", "\u00ff"};
        int[] place = {0, 2, 3, 5, 4, 3, 1, 1, 2, 4, 1, 1, 1,
            0, 0, 2, 2, 0, 1, 0, 1, 3, 3, 2, 7, 3, 3, 0};
        Check.is("rule", Check.put(x, "7").rule(), 0);
        for (int i = 0; i < bad.length; i++) {
            Check.is("rule " + bad[i], Check.put(x, bad[i]).rule(), -1 - place[i]);
            Check.is("THE RULE stays", x.one(0, 7), 7);
            Check.is("its text is gone", x.count(13), 0);
            Check.is("law " + bad[i], Check.put(x, bad[i]).law(), -10000 - place[i]);
            Check.is("its text is gone", x.count(13), 0);
        }
        Check.is("40 signs", Check.put(x, "-".repeat(38) + "12").rule(), 0);
        Check.is("40 signs with an open end", Check.put(x, "1+".repeat(20)).rule(), -41);
        Check.is("41 signs", Check.put(x, "1+".repeat(20) + "1").rule(), -41);
        Check.is("41 signs, whole at 40", Check.put(x, "1+".repeat(19) + "111").rule(), -41);
        Check.is("41 signs, a fault ahead", Check.put(x, "1+".repeat(19) + "+111").rule(), -39);
        Check.is("41 signs, the last one wrong", Check.put(x, "1+".repeat(19) + "11z").rule(), -41);
        Check.is("an empty one", Check.put(x, "").rule(), 0);
        Check.is("its text is gone", x.count(13), 0);
        Check.is("none: s-d+(c>u)", x.one(0, 7), 5);
        x.promise(0, 2, 6);
        Check.is("none: 6 crumbs are more than TRUST", x.one(0, 7), 6);
        x.promise(0, 2, 5);
        Check.is("none: 5 are not", x.one(0, 7), 5);
    }

    private static void ruleValues() {
        FishFerry x = Check.ferry("45....................", "s5", "0236");
        Check.put(x, "4444444").fog();
        String[] rules = {"7-2-1", "8/2/2", "7/0+3", "-7/2+9", "--5", "---5+9", "2+3*2", "(2+3)*1", "1<2+3", "1+1=2", "3>4", "-5", "99",
            "s", "d", "c", "u", "f", "n", "k", "g", "(1<2)<3", "1<(2<3)", "((((6))))", "2*-3+9", "9-2*3", "6/4*2", "007", "1=1*5", "0-9<0",
            "999*999*999*999", "-999*999*999*999", "5-(1>0)", "s-d+(c>u)", "s--d", "g=5", "0/5+1", "6*3/4", "9/2*3-8", "0-2*3+8"};
        int[] due = {4, 2, 3, 6, 5, 4, 8, 5, 1, 1, 0, 0, 9,
            5, 0, 6, 5, 4, 0, 3, 5, 1, 0, 6, 3, 3, 2, 7, 0, 1,
            0, 9, 4, 6, 5, 1, 1, 4, 4, 2};
        for (int i = 0; i < rules.length; i++) {
            Check.is("rule " + rules[i], Check.put(x, rules[i]).rule(), 0);
            Check.is("PULL by " + rules[i], x.one(0, 7), due[i]);
        }
        Check.put(x, "0").rule();
        x.hours(9);
        Check.put(x, "n").rule();
        Check.is("HOUR 9 by 7", x.one(0, 7), 2);
        Check.put(x, "5").rule();
        x.letsGo(0);
        Check.is("not HOLDING", x.one(0, 7) + " " + x.one(0, 8), "0 -1");
        x.letsGo(0);
        x.promise(0, 0, 3);
        Check.is("GOAL where BOAT is", x.one(0, 7) + " " + x.one(0, 8), "0 -1");
        x.takesBack(0);
        Check.is("no PROMISE", x.one(0, 7) + " " + x.one(0, 8), "0 -1");
    }

    private static void waysToPull() {
        FishFerry x = Check.ferry("55" + ".".repeat(25), "t9;p9;s9", "");
        for (int i = 0; i < 3; i++) {
            x.promise(i, 12, 0);
        }
        x.hours(0);
        // The boat stands in a corner; trout and shoal want the middle, which is as far down as right.
        Check.is("ways to the middle", "" + x.one(0, 8) + x.one(1, 8) + x.one(2, 8), "204");
        int[] goals = {1, 5, 7, 11, 24};
        String[] due = {"131", "202", "131", "202", "204"};
        for (int g = 0; g < goals.length; g++) {
            for (int i = 0; i < 3; i++) {
                x.promise(i, goals[g], 0);
            }
            Check.is("ways to " + goals[g], "" + x.one(0, 8) + x.one(1, 8) + x.one(2, 8), due[g]);
        }
        FishFerry y = Check.ferry("33.........", "t9;p9;s9", "0220");
        y.hours(4);
        y.letsGo(0);
        Check.is("in the other corner", y.count(3), 8);
        int[] back = {0, 1, 3, 5, 7};
        String[] ways = {"024", "020", "313", "020", "313"};
        for (int g = 0; g < back.length; g++) {
            for (int i = 0; i < 3; i++) {
                y.promise(i, back[g], 0);
            }
            y.letsGo(0);
            Check.is("ways back to " + back[g], "" + y.one(0, 8) + y.one(1, 8) + y.one(2, 8), ways[g]);
            y.letsGo(0);
        }
    }

    private static void onesAndFields() {
        FishFerry x = Check.ferry("23.#....", "t5;s3", "0124;1127");
        Check.is("all of fish 0", "" + x.one(0, 0) + x.one(0, 1) + x.one(0, 2) + x.one(0, 3) + x.one(0, 4) + x.one(0, 5)
                + x.one(0, 6) + x.one(0, 7) + x.one(0, 8), "050515451");
        x.letsGo(1);
        Check.is("HOLDING", "" + x.one(0, 4) + x.one(1, 4), "10");
        Check.is("none such", "" + Check.throwsOnOne(x, -1, 0) + Check.throwsOnOne(x, 2, 0) + Check.throwsOnOne(x, 0, -1)
                + Check.throwsOnOne(x, 0, 9), "truetruetruetrue");
        Check.is("field", "" + x.field(1, 0) + x.field(0, 0) + x.field(0, 1) + x.field(5, 1) + x.field(5, 2) + x.field(0, 2), "101030");
        Check.is("none such", "" + Check.throwsOnField(x, -1, 0) + Check.throwsOnField(x, 6, 0) + Check.throwsOnField(x, 0, -1)
                + Check.throwsOnField(x, 0, 3), "truetruetruetrue");
    }

    private static void sheets() {
        FishFerry x = Check.ferry("", "t5;p5;e5", "");
        Check.is("bytes", x.sheet(0, 2, 258, 1), 6);
        Check.is("of three", "" + x.one(0, 1) + x.one(1, 1) + x.one(2, 1), "231");
        Check.is("bytes with their sign", x.sheet(0, 3, 127, 1), 11);
        Check.is("shorts with their sign", x.sheet(1, 3, 32767, 1), 11);
        Check.is("ints", x.sheet(2, 3, 2147483647, 1), 11);
        Check.is("the lowest bits of shorts", x.sheet(1, 3, 65536 + 4, 65536 - 1), 4 + 3 + 2);
        Check.is("ints beyond 9", x.sheet(2, 3, 258, -300), 11);
        Check.is("more than there are FISH", x.sheet(2, 8, 1, 1), 6);
        Check.is("an empty one", x.sheet(1, 0, 7, 7), 3);
        x.sheet(2, 3, 5, 0);
        Check.is("n below 0", x.sheet(0, -1, 1, 1), -2);
        Check.is("n above 8", x.sheet(0, 9, 1, 1), -1);
        Check.is("no such kind", x.sheet(4, -1, 1, 1), -1);
        Check.is("no such kind", x.sheet(-1, 2, 1, 1), -1);
        Check.is("missing, n above 8", x.sheet(3, 9, 1, 1), -1);
        Check.is("nothing changed", "" + x.one(0, 1) + x.one(1, 1) + x.one(2, 1), "555");
        Check.is("missing", x.sheet(3, -7, 5, 0), -3);
        Check.is("all 1", "" + x.one(0, 1) + x.one(1, 1) + x.one(2, 1), "111");
        Check.is("no undo of it", x.count(11), 0);
    }

    public static void main(String[] args) {
        aNewObject();
        signs();
        lakes();
        lakeAnew();
        fish();
        fishForgetUndo();
        oars();
        fogs();
        ruleFaults();
        ruleValues();
        waysToPull();
        onesAndFields();
        sheets();
        Check.finish();
    }
}
