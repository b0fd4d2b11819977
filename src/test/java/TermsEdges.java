/** The document's terms, sentence by sentence. */
final class TermsEdges {
    private static final String EIGHT = "t1;t1;t1;t1;t1;t1;t1;t1";
    private static final String ALL_HERE = "0000;1000;2000;3000;4000;5000;6000;7000";
    private static final String ALL_FOR_3 = "0003;1003;2003;3003;4003;5003;6003;7003";

    private TermsEdges() {
    }

    static void run() {
        theLake();
        theFish();
        stores();
        fogs();
        ruleSigns();
        ruleThings();
        ruleInts();
        ways();
        anHour();
        keptAndBroken();
        rows();
        questions();
        refusals();
    }

    private static void theLake() {
        Says.of(0, "1. THE LAKE: ROWS and COLUMNS, 2 to 6 each");
        for (int rows = 0; rows <= 9; rows++) {
            for (int columns = 0; columns <= 9; columns++) {
                int due = rows < 2 || rows > 6 ? -1 : columns < 2 || columns > 6 ? -2 : rows * columns;
                String text = "" + rows + columns + ".".repeat(Math.min(78, rows * columns));
                Says.is(text, Check.put(new FishFerry(), text).lake(), due);
            }
        }
        Says.of(0, "(at first 2 and 2)");
        Says.is(Check.counts(new FishFerry(), 0, 1), "2 2");

        Says.of(0, "FIELDS by rows, from 0 on");
        FishFerry x = Check.ferry("23...#..", "t1", "0120");
        Says.are("[0, 0, 0, 1, 0, 0]", x.field(0, 0), x.field(1, 0), x.field(2, 0), x.field(3, 0), x.field(4, 0), x.field(5, 0));
        Says.is("row 1, column 2", x.one(0, 5), 5);
        Says.is("below 0, behind the last", Check.throwsOnField(x, -1, 0) && Check.throwsOnField(x, 6, 0), true);

        Says.of(0, "each water or a rock (at first water)");
        FishFerry first = new FishFerry();
        Says.are("[0, 0, 0, 0]", first.field(0, 0), first.field(1, 0), first.field(2, 0), first.field(3, 0));

        Says.of(0, "It is told by a text of two digits (2 .. 6) and one sign for each FIELD: . water, # a rock.");
        Says.is(Check.put(first, "22.#.#").lake(), 4);
        Says.are("[0, 1, 0, 1]", first.field(0, 0), first.field(1, 0), first.field(2, 0), first.field(3, 0));
        Says.is("another sign", Check.put(first, "22.*.#").lake(), -4);

        Says.of(0, "BOAT: on a FIELD (at first 0).");
        FishFerry boat = new FishFerry();
        Says.are("[0, 1, 0, 0, 0]", boat.count(3), boat.field(0, 1), boat.field(1, 1), boat.field(2, 1), boat.field(3, 1));
    }

    private static void theFish() {
        Says.of(0, "FISH 0 .. (at most 8): ");
        FishFerry full = Check.ferry("", EIGHT, "");
        Says.are("[8, 1, 255]", full.count(2), full.one(7, 1), full.count(9));
        Says.is("no ninth", Check.throwsOnOne(full, 8, 0) && Check.put(full, "t1").fish() == -1 && full.count(2) == 8, true);

        Says.of(0, "KIND 0 .. 3 (t trout, p pike, e eel, s shoal), STRENGTH 1 .. 9");
        FishFerry x = Check.ferry("", "t1;p9;e5;s2", "");
        Says.is(Check.each(x, 0), "0 1 2 3");
        Says.is(Check.each(x, 1), "1 9 5 2");

        Says.of(0, "TIRED 0 .. 9 (at first 0), TRUST 0 .. 9 (at first 5), HOLDING or not (at first so)");
        Says.is(Check.each(x, 2) + " " + Check.each(x, 3) + " " + Check.each(x, 4), "0 0 0 0 5 5 5 5 1 1 1 1");
        x.letsGo(2);
        Says.is(Check.each(x, 4), "1 1 0 1");

        Says.of(0, "a PROMISE (a GOAL: a FIELD; CRUMBS 0 .. 9) or none (at first).");
        Says.is(Check.each(x, 5) + " " + Check.each(x, 6), "-1 -1 -1 -1 -1 -1 -1 -1");
        x.promise(0, 0, 0);
        x.promise(3, 3, 9);
        Says.is(Check.each(x, 5) + " " + Check.each(x, 6), "0 -1 -1 3 0 -1 -1 9");

        Says.of(0, "They are told by a text of at most 23 signs: LINES with ; between, each one more: "
                + "a letter t, p, e or s, a digit (STRENGTH, not 0).");
        Says.are("[8, -24, -2, -3, -1]", fish(EIGHT), fish(EIGHT + ";t1"), fish("t0"), fish("t1,t1"), fish("q1"));
    }

    private static int fish(String text) {
        return Check.put(new FishFerry(), text).fish();
    }

    private static void stores() {
        Says.of(0, "STORE: 0 .. 99 crumbs (at first 20).");
        FishFerry x = Check.ferry("", "t1;t1;t1", "0009;1009;2002");
        Says.is(x.count(4), 20);
        x.hours(1);
        Says.are("[0, 99, -3]", x.count(4), x.buys(99), x.buys(1));
        Says.is(x.count(4), 99);

        Says.of(0, "KEPT 0 .. 999, BROKEN 0 .. 999 (at first 0).");
        Says.is(Check.counts(new FishFerry(), 5, 6), "0 0");
        Says.is(Check.counts(manyKept(124), 5, 6), "992 0");
        Says.is(Check.counts(manyKept(125), 5, 6), "999 0");
        Says.is(Check.counts(manyBroken(124), 5, 6), "2 992");
        Says.is(Check.counts(manyBroken(125), 5, 6), "2 999");
    }

    /** Eight PROMISES kept so many times. */
    private static FishFerry manyKept(int times) {
        FishFerry x = Check.ferry("", EIGHT, "");
        for (int i = 0; i < times; i++) {
            Check.put(x, ALL_HERE).oar();
            x.hours(1);
        }
        return x;
    }

    /** Eight PROMISES broken so many times, each time by new FISH, since those have no TRUST left. */
    private static FishFerry manyBroken(int times) {
        FishFerry x = Check.ferry("", "t1;t1", "0009;1009");
        x.hours(1);
        for (int i = 0; i < times; i++) {
            Check.put(x, "22....").lake();
            Check.put(x, EIGHT).fish();
            Check.put(x, ALL_FOR_3).oar();
            x.hours(1);
        }
        return x;
    }

    private static void fogs() {
        Says.of(0, "FOG is a text of 1 to 20 digits (at first 0): ");
        FishFerry x = new FishFerry();
        Says.is("at first", "" + x.count(8) + x.hours(7) + x.count(8), "000");
        Says.are("[-1, 1, 20, -21]", fog(""), fog("9"), fog("1".repeat(20)), fog("1".repeat(21)));

        Says.of(0, "that of an HOUR is the digit at HOUR by how many there are (rest).");
        Check.put(x, "503").fog();
        Says.is("at HOUR 7 of three", x.count(8), 0);
        x.hours(1);
        Says.is("at HOUR 8", x.count(8), 3);
        x.hours(1);
        Says.is("it begins anew at HOUR 9", x.count(8), 5);
        Check.put(x, "0123456789012345678" + "7").fog();
        x.hours(10);
        Says.is("the twentieth at HOUR 19", x.count(8), 7);
        x.hours(1);
        Says.is("the first at HOUR 20", x.count(8), 0);

        Says.of(0, "HOUR (at first 0).");
        Says.are("[0, 20]", new FishFerry().count(7), x.count(7));
    }

    private static int fog(String text) {
        return Check.put(new FishFerry(), text).fog();
    }

    /** A shoal of 5 with 6 crumbs for what is 2 ROWS and 3 COLUMNS away, in FOG 4. */
    private static FishFerry shoal() {
        FishFerry x = Check.ferry("45....................", "s5", "0236");
        Check.put(x, "4").fog();
        return x;
    }

    /** PULL by a rule, or the answer of one that is refused. */
    private static int pull(String rule) {
        FishFerry x = shoal();
        int answer = Check.put(x, rule).rule();
        return answer == 0 ? x.one(0, 7) : answer;
    }

    private static void ruleSigns() {
        Says.of(0, "THE RULE is a text of at most 40 signs (at first none: s-d+(c>u)).");
        Says.are("[6, 6, 6, -41]", shoal().one(0, 7), pull(""), pull("5+" + "0+".repeat(18) + "01"), pull("5+" + "0+".repeat(18) + "001"));

        Says.of(0, "EXPRESSION: < > = bind least (two; 1 or 0; not one behind the other)");
        Says.are("[1, 0, 0]", pull("1<2"), pull("2<2"), pull("3<2"));
        Says.are("[0, 0, 1]", pull("1>2"), pull("2>2"), pull("3>2"));
        Says.are("[0, 1, 0]", pull("1=2"), pull("2=2"), pull("3=2"));
        Says.are("[1, 1, 0]", pull("1+1=4-2"), pull("1<2*1"), pull("0-1>-1"));
        Says.are("[-4, -4, -4, -6, -5]", pull("1<2<3"), pull("1=2>3"), pull("1>0=1"), pull("1<2+3=4"), pull("(1<2<3)"));
        Says.are("[1, 0, 2, -8]", pull("(1<2)<3"), pull("1<(2<3)"), pull("(1<2)+(1<2)"), pull("(1<2)=3>4"));
        Says.are("[-1, -3, -3]", pull("<1"), pull("1<"), pull("1<>2"));

        Says.of(0, "then + - (from the left)");
        Says.are("[1, 7, 1, 3]", pull("9-5-3"), pull("9-5+3"), pull("5+3-9+2"), pull("9-(5+1)"));
        Says.are("[-1, -3, -3]", pull("+1"), pull("1+"), pull("1++1"));

        Says.of(0, "then * / (from the left; by 0: 0; cut to 0)");
        Says.are("[4, 8, 4, 1]", pull("8/4*2"), pull("9/2*2"), pull("8*2/4"), pull("8/4/2"));
        Says.are("[8, 7, 3]", pull("2+3*2"), pull("9-4/2"), pull("9-2*3"));
        Says.are("[0, 5, 1, 4]", pull("7/0"), pull("5+7/0"), pull("0/0+1"), pull("5/(2-2)+4"));
        Says.are("[6, 6, 3, 9, 0]", pull("9+-7/2"), pull("9+7/-2"), pull("-7/-2"), pull("9+-1/2"), pull("8/9"));
        Says.are("[-1, -1, -3, -3]", pull("*1"), pull("/1"), pull("1*"), pull("1*/1"));

        Says.of(0, "then - ahead of a thing (any many)");
        Says.are("[0, 5, 0, 4]", pull("-5"), pull("--5"), pull("---5"), pull("9+---5"));
        Says.are("[6, 3, 3, 7, 1]", pull("-2*-3"), pull("-2+5"), pull("-(2-5)"), pull("9--5+-7"), pull("-1<0"));
        Says.are("[0, 5, -2, -41]", pull("-".repeat(39) + "5"), pull("-".repeat(38) + "5"), pull("-"), pull("-".repeat(40)));
    }

    private static void ruleThings() {
        Says.of(0, "then - ahead of a thing (any many); things: a NUMBER of 1 to 3 digits");
        Says.are("[0, 7, 7, 7, 9]", pull("0"), pull("7"), pull("07"), pull("007"), pull("999"));
        Says.are("[4, -4, -4, -6]", pull("104-100"), pull("1000"), pull("0001"), pull("1+1000"));
        Says.are("[-2, -2, -2]", pull("1s"), pull("s1"), pull("ss"));

        Says.of(0, "an EXPRESSION in ( ) (at most 4 in one another)");
        Says.are("[7, 7, -5, 3]", pull("(7)"), pull("((((7))))"), pull("(((((7)))))"), pull("((((1))))+((((2))))"));
        Says.are("[-2, -2, -3, -2, -1]", pull("()"), pull("1)"), pull("(1"), pull("1("), pull(")"));
        Says.are("[-4, -4, -6]", pull("(1)1"), pull("(1)("), pull("((1)))"));

        Says.of(0, "and, of a FISH with a PROMISE: s STRENGTH, d TIRED, c its CRUMBS, u TRUST, f FOG of this HOUR, "
                + "n HOUR by 7 (rest), k KIND, g how far its GOAL is from BOAT (ROWS and COLUMNS between them added).");
        Says.are("[5, 0, 6, 5, 4, 0, 3, 5]", pull("s"), pull("d"), pull("c"), pull("u"), pull("f"), pull("n"), pull("k"), pull("g"));
        FishFerry x = Check.ferry("66" + ".".repeat(36), "t1", "0550");
        Check.put(x, "g-1").rule();
        Says.is("10 is the farthest", x.one(0, 7), 9);
        Check.put(x, "0").rule();
        Says.is("HOURS by 7", hoursByRule(x), "1 2 3 4 5 6 0 1 2 ");
        Says.are("[-1, -1, -1, -1]", pull("S"), pull("x"), pull(" s"), pull("\u00e9"));
    }

    private static String hoursByRule(FishFerry x) {
        StringBuilder seen = new StringBuilder();
        for (int i = 0; i < 9; i++) {
            Check.put(x, "0").rule();
            x.hours(1);
            Check.put(x, "n").rule();
            seen.append(x.one(0, 7)).append(' ');
        }
        return seen.toString();
    }

    private static void ruleInts() {
        Says.of(0, "As ints, put to 0 .. 9: PULL.");
        Says.are("[9, 9, 0, 0]", pull("9"), pull("10"), pull("0-1"), pull("0"));
        Says.is("2 to the 31st is below 0", pull("256*256*256*128"), 0);
        Says.is("less 1 it is above 0", pull("256*256*256*128-1"), 9);
        Says.is("2 to the 32nd is 0", pull("256*256*256*256+3"), 3);
        Says.is("the least int by -1 is itself", pull("256*256*256*128/-1<0"), 1);
        Says.is("the least int turned is itself", pull("-(256*256*256*128)<0"), 1);

        Says.of(0, "Who has no PROMISE, does not HOLD, or has its GOAL where BOAT is, has PULL 0.");
        FishFerry x = Check.ferry("22....", "t5;t5;t5;t5", "0010;1010;2000");
        Check.put(x, "7").rule();
        x.letsGo(1);
        Says.is(Check.each(x, 7), "7 0 0 0");
    }

    private static void ways() {
        FishFerry x = Check.ferry("55" + ".".repeat(25), "t9;p9;s9", "0220");
        Check.put(x, "7").rule();
        x.hours(4);
        Says.of(0, "A FISH pulls up (0), right (1), down (2) or left (3): toward its GOAL, up or down, "
                + "if there are as many ROWS between as COLUMNS or more, else right or left");
        Says.is("BOAT", x.count(3), 12);
        Says.is(waysOf(x, 0), "00000 30001 33-11 32221 22222 ");
        Says.of(0, "a pike pulls the other way round");
        Says.is(waysOf(x, 1), "22222 12223 11-33 10003 00000 ");
        Says.of(0, "a shoal with as many ROWS as COLUMNS between pulls both ways, half each (cut).");
        Says.is(waysOf(x, 2), "40004 34041 33-11 34241 42224 ");
        x.takesBack(2);
        x.promise(2, 4, 0);
        Says.tells("7 is 3 and 3, up and right", x, x.towed(), "0 [3, 3, -3, -3]");
        Check.put(x, "1").rule();
        Says.tells("1 is 0 and 0", x, x.towed(), "-2 [0, 0, 0, 0]");
        x.promise(2, 9, 0);
        Says.tells("one way has all", x, x.towed(), "1 [0, 1, 0, -1]");
    }

    /** The way a FISH pulls for each FIELD as its GOAL. */
    private static String waysOf(FishFerry x, int fish) {
        StringBuilder all = new StringBuilder();
        for (int goal = 0; goal < 25; goal++) {
            x.promise(fish, goal, 0);
            int way = x.one(fish, 8);
            all.append(way < 0 ? "-" : "" + way).append(goal % 5 == 4 ? " " : "");
        }
        x.promise(fish, 12, 0);
        return all.toString();
    }

    private static void anHour() {
        Says.of(0, "AN HOUR: (1) each way has the PULL of all who pull it, less that of all who pull the other way round");
        FishFerry x = Check.ferry("33.........", "t5;t3;p4;t2", "0020;1200;2020;3010");
        Says.tells(x, x.towed(), "1 [-3, 3, 3, -3]");

        Says.of(0, "BOAT goes to the FIELD beside it by the way that has the most of it, above 0 (of equal ones the first)");
        Says.is("right ahead of down", x.ahead(1), 1);
        x.letsGo(3);
        Says.is("down has more", x.ahead(1), 3);
        FishFerry centre = Check.ferry("33.........", "t9;t5;t5", "0110");
        centre.hours(2);
        Says.are("[4, 1, 5, 7, 1, 3]", centre.count(3), goes(centre, 1, 5), goes(centre, 5, 7), goes(centre, 7, 3), goes(centre, 1, 3),
                goes(centre, 3, 3));

        Says.of(0, "if there is none such, or no FIELD, or a rock, it STICKS.");
        FishFerry none = Check.ferry("22....", "t5;p5", "0010;1010");
        Says.tells("none", none, none.towed(), "-2 [0, 0, 0, 0]");
        FishFerry rock = Check.ferry("22.#..", "t5;t4", "0010;1100");
        Says.tells("a rock, though the way down is free", rock, rock.towed(), "-2 [-4, 5, 4, -5]");
        Says.is("a rock", rock.ahead(1), 0);
        Says.is("up, left", outOf(0, 2) + " " + outOf(0, 1), "-2 [9, 0, -9, 0] -2 [0, -9, 0, 9]");
        Says.is("down, right", outOf(3, 1) + " " + outOf(3, 2), "-2 [-9, 0, 9, 0] -2 [0, 9, 0, -9]");

        Says.of(0, "(2) TIRED of each FISH that had PULL above 0 (as ahead) is 1 more (9 at most), of each other one 1 less (0 at least).");
        FishFerry tired = Check.ferry("22.#..", "t5;t5", "0010");
        Check.put(tired, "9").rule();
        tired.hours(8);
        Says.is("stuck, too", Check.each(tired, 2), "8 0");
        tired.hours(1);
        Says.is(Check.each(tired, 2), "9 0");
        tired.hours(1);
        Says.is("9 at most", Check.each(tired, 2), "9 0");
        tired.letsGo(0);
        tired.hours(1);
        Says.is("1 less", Check.each(tired, 2), "8 0");
        tired.hours(8);
        Says.is("as many less", Check.each(tired, 2), "0 0");
        tired.hours(1);
        Says.is("0 at least", Check.each(tired, 2), "0 0");
        FishFerry there = Check.ferry("22....", "t5;t5", "0010;1000");
        there.hours(1);
        Says.is("who comes to its GOAL has pulled, who was there has not", Check.each(there, 2), "1 0");
    }

    private static int goes(FishFerry x, int first, int second) {
        x.promise(1, first, 0);
        x.promise(2, second, 0);
        return x.ahead(1);
    }

    /** Where a pike tows BOAT from a corner, away from a GOAL. */
    private static String outOf(int corner, int goal) {
        FishFerry x = Check.ferry("22....", "p9;t9", "");
        x.promise(1, corner, 0);
        x.hours(2);
        Check.is("BOAT in the corner", x.count(3), corner);
        x.promise(0, goal, 0);
        return x.towed() + " " + Check.row(x);
    }

    private static void keptAndBroken() {
        Says.of(0, "(3) FISH by their numbers whose GOAL is where BOAT is then: if STORE has its CRUMBS, it is so much less, "
                + "KEPT is 1 more (999 at most), TRUST 1 more (9 at most)");
        FishFerry x = Check.ferry("22....", "t1;t1;t1;t1;t1", "0009;1009;2003;3002;4000");
        Says.tells("9, 9, not 3, 2 as all that is left, 0 of 0", x, x.hours(1), "0 [4, 1, 1]");
        Says.is(Check.counts(x, 4, 5, 6), "0 4 1");
        Says.is(Check.each(x, 3), "6 6 0 6 6");
        FishFerry moved = Check.ferry("22....", "t5;t1;t1", "0010;1010;2000");
        moved.letsGo(1);
        Says.tells("where BOAT is then; one that does not HOLD, too", moved, moved.hours(1), "1 [2, 0, 0]");
        Says.is("the one of the FIELD it left has its PROMISE", Check.each(moved, 5), "-1 -1 0");
        Says.is("999 at most", Check.counts(manyKept(126), 5, 6), "999 0");
        Says.is("9 at most", Check.each(manyKept(3), 3) + "," + Check.each(manyKept(4), 3) + "," + Check.each(manyKept(5), 3),
                "8 8 8 8 8 8 8 8,9 9 9 9 9 9 9 9,9 9 9 9 9 9 9 9");

        Says.of(0, "else BROKEN is 1 more (999 at most), TRUST 0; its PROMISE is gone.");
        Says.is("gone, kept or broken", Check.each(x, 5) + " " + Check.each(x, 6), "-1 -1 -1 -1 -1 -1 -1 -1 -1 -1");
        FishFerry broken = manyBroken(126);
        Says.is("999 at most", Check.counts(broken, 6), "999");
        Says.is("TRUST 0", Check.each(broken, 3), "0 0 0 0 0 0 0 0");

        Says.of(0, "(4) HOUR is 1 more.");
        FishFerry hour = new FishFerry();
        hour.hours(1);
        Says.is(hour.count(7), 1);
        hour.hours(60);
        Says.is(hour.count(7), 61);
    }

    private static void rows() {
        Says.of(0, "2. ROW: numbers told last by a call that says so.");
        FishFerry x = Check.ferry("22....", "t5", "0010");
        Says.are("[0]", x.count(12));
        x.towed();
        x.count(3);
        x.buys(1);
        x.letsGo(9);
        x.farthest();
        x.forget();
        Says.is(Check.row(x), "[2, 0]");
        rowsAnew();

        Says.of(0, "Sets (of FISH, FIELDS) are bits.");
        FishFerry big = Check.ferry("66" + ".".repeat(36), EIGHT, "7550");
        Says.are("[128, 255]", big.field(35, 2), big.count(9));
        Check.put(big, "9").rule();
        big.hours(10);
        Says.is("bit 35", big.track(1), 1L << 35);

        Says.of(0, "Rows are compared from the first number on.");
        FishFerry way = Check.ferry("33.........", "", "");
        Says.tells("0 1 is less than 0 3", way, way.way(0, 4), "2 [0, 1, 4]");
        Says.tells("the second number counts ahead of the third", way, way.way(4, 0), "2 [4, 1, 0]");

        Says.of(0, "Fractions are told in lowest terms, upper and lower number (0 by 1).");
        Says.tells("5 by 10", x, x.drifts(1, 5), "0 [1, 2]");
        Says.tells("10 by 10", x, x.drifts(1, 0), "0 [1, 1]");
        Says.tells("0 by 10", x, x.drifts(1, 10), "0 [0, 1]");
        Says.tells("3 by 10", x, x.drifts(4, 3), "0 [3, 10]");
    }

    /** What was told ahead of a call leaves nothing in its ROW. */
    private static void rowsAnew() {
        FishFerry x = rich();
        for (int call = 0; call < 24; call++) {
            tell(x, call);
            String once = Check.row(x).toString();
            x.way(0, 11);
            x.towed();
            tell(x, call);
            Says.is("call " + call + " twice", Check.row(x), once);
        }
    }

    /** One of the calls that tell a ROW and leave all as it is. */
    private static void tell(FishFerry x, int call) {
        switch (call) {
            case 0: x.hours(0); break;
            case 1: Check.put(x, "").day(); break;
            case 2: x.towed(); break;
            case 3: x.ahead(3); break;
            case 4: x.comes(x.count(3)); break;
            case 5: x.sticks(); break;
            case 6: x.track(3); break;
            case 7: x.sends(x.count(3), 0, 1); break;
            case 8: x.cheapest(x.count(3), 1); break;
            case 9: x.matters(1); break;
            case 10: x.keeps(); break;
            case 11: x.owed(); break;
            case 12: x.fates(5); break;
            case 13: x.minds(); break;
            case 14: x.evens(); break;
            case 15: x.strongest(); break;
            case 16: x.sways(0); break;
            case 17: x.fits(); break;
            case 18: x.looks(); break;
            case 19: x.farthest(); break;
            case 20: x.drifts(4, 5); break;
            case 21: x.game(5, 2); break;
            case 22: x.rests(4); break;
            default: x.years(1, 5); break;
        }
    }

    /** A ferry with something in all that a call could change. */
    static FishFerry rich() {
        FishFerry x = Check.ferry("34....#.......", "t7;p4;e3;s6;t2;t1", "0009;3009;5003");
        Check.put(x, "4701").fog();
        Check.put(x, "s-d+(c>u)+f/4").rule();
        x.hours(1);
        x.buys(9);
        Check.put(x, "0239;1020;3224;4001").oar();
        x.hours(2);
        x.letsGo(1);
        x.buys(3);
        x.seen(2, 5, 0);
        x.keep(1);
        return x;
    }

    private static void questions() {
        Says.of(0, "Questions change nothing.");
        FishFerry x = rich();
        x.sign(0x73000000);
        x.end(1);
        String before = Check.state(x);
        x.field(3, 2);
        x.towed();
        x.ahead(99);
        x.comes(11);
        x.sticks();
        x.track(99);
        x.sends(11, 3, 20);
        x.cheapest(11, 20);
        x.matters(60);
        x.keeps();
        x.owed();
        x.fates(99);
        x.minds();
        x.evens();
        x.strongest();
        x.sways(0);
        x.fits();
        x.looks();
        x.way(0, 11);
        x.farthest();
        x.drifts(1, 5);
        x.game(60, 3);
        x.rests(20);
        x.years(77, 60);
        Says.is(Check.state(x), before);
        Says.is("law() reads THE TEXT that stayed", x.law() >= 0 && x.count(13) == 0, true);
        x.sign(0x73000000);
        x.end(1);
        Says.is("law() leaves THE RULE", Check.state(x), before);
        Says.is("what is kept", x.again(1) && x.count(7) == 3, true);
    }

    private static void refusals() {
        Says.of(0, "Refused calls answer NONE, or false, and change nothing but THE TEXT, which a call that reads it empties.");
        FishFerry x = rich();
        Check.put(x, ".".repeat(80));
        x.owed();
        String before = Check.state(x) + Check.row(x);
        Says.are("[-1, -1, -1, -1, -1, -1, -1]", x.sign(0), x.hours(61), x.promise(6, 0, 0), x.takesBack(6), x.letsGo(-1), x.buys(0),
                x.sheet(4, 1, 1, 1));
        Says.are("[-1, -1, -1, -1, -1, -1, -1]", x.ahead(100), x.comes(12), x.track(0), x.sends(0, 10, 1), x.cheapest(0, 0), x.matters(0),
                x.fates(0));
        Says.are("[-1, -1, -1, -1, -1, -1, -1]", x.sways(6), x.seen(21, 0, 0), x.way(0, 12), x.drifts(5, 0), x.game(61, 2), x.rests(21),
                x.years(1, 0));
        Says.is("" + x.end(81) + x.end(-1) + x.keep(3) + x.again(0) + x.again(3), "falsefalsefalsefalsefalse");
        Says.is(Check.state(x) + Check.row(x), before);
        x.end(0);
        String empty = Check.state(x) + Check.row(x);
        Says.are("[-1, -1, -1, -1, -1, -1, -10000]", Check.put(x, "?").lake(), Check.put(x, "?").fish(), Check.put(x, "?").oar(),
                Check.put(x, "?").fog(), Check.put(x, "?").rule(), Check.put(x, "?").day(), Check.put(x, "?").law());
        Says.is("THE TEXT is empty, all else as it was", Check.state(x) + Check.row(x), empty);
        for (int call = 0; call < 7; call++) {
            Check.put(x, "?");
            readBy(x, call);
            Says.is("emptied by reader " + call, x.count(13), 0);
        }
    }

    private static void readBy(FishFerry x, int call) {
        switch (call) {
            case 0: x.lake(); break;
            case 1: x.fish(); break;
            case 2: x.oar(); break;
            case 3: x.fog(); break;
            case 4: x.rule(); break;
            case 5: x.day(); break;
            default: x.law(); break;
        }
    }
}
