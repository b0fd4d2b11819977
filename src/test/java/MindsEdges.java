/** Promises 30 to 37, sentence by sentence. */
final class MindsEdges {
    private static final String OPEN = "33.........";

    private MindsEdges() {
    }

    static void run() {
        minds();
        evens();
        strongest();
        sways();
        swaysEdges();
        seen();
        fits();
        looks();
        looksFar();
    }

    private static void minds() {
        Says.of(30, "FISH (bits) with a PROMISE of two minds: as many ROWS as COLUMNS are between BOAT and GOAL, not 0");
        FishFerry x = Check.ferry(OPEN, "t1;p1;s1;s1;s1;e1;t1", "0110;1220;2220;3120;4000");
        Says.is(x.minds(), 7);
        x.letsGo(0);
        Says.is("of one that let go, too", x.minds(), 7);
        FishFerry centre = Check.ferry(OPEN, "t9;t1;t1;t1;t1", "0110");
        centre.hours(2);
        Check.put(centre, "1000;2020;3200;4220").oar();
        Says.is("four corners", centre.minds(), 30);
        Check.put(centre, "1010;2120;3210;4110").oar();
        Says.is("beside, and there", centre.minds(), 0);

        Says.of(30, "the ROW: how many, shoals among them (bits).");
        Says.tells(x, x.minds(), "7 [3, 4]");
        Says.tells("none", centre, centre.minds(), "0 [0, 0]");
        FishFerry none = new FishFerry();
        Says.tells("no FISH", none, none.minds(), "0 [0, 0]");
    }

    private static void evens() {
        Says.of(31, "FISH with PULL above 0 are parted in two so that PULL of both parts differs the least: by how much");
        Says.are("[0, 7, 1, 0, 2]", evensOf(""), evensOf("7"), evensOf("43"), evensOf("459"), evensOf("536"));
        Says.are("[8, 0]", evensOf("99999991"), evensOf("99999999"));
        FishFerry some = Check.ferry(OPEN, "t9;t4;t4;e9;t9", "0000;1220;2220;4220");
        some.letsGo(4);
        Says.is("PULL above 0 alone", some.evens(), 0);

        Says.of(31, "the ROW: one part (bits: of as good ones the least), its PULL.");
        Says.tells("not who has PULL 0", some, some.evens(), "0 [2, 4]");
        FishFerry x = ferry("536");
        Says.tells("5 and 3", x, x.evens(), "2 [3, 8]");
        FishFerry two = ferry("99");
        Says.tells("the first of two", two, two.evens(), "0 [1, 9]");
        FishFerry one = ferry("7");
        Says.tells("one: none is the least part", one, one.evens(), "7 [0, 0]");
        FishFerry none = new FishFerry();
        Says.tells("none", none, none.evens(), "0 [0, 0]");
        FishFerry eight = ferry("11111111");
        Says.tells("four of eight", eight, eight.evens(), "0 [15, 4]");
        FishFerry last = ferry("1234");
        Says.tells("2 and 3 ahead of 1 and 4", last, last.evens(), "0 [6, 5]");
    }

    /** Trout of these STRENGTHS who all pull. */
    private static FishFerry ferry(String strengths) {
        StringBuilder fish = new StringBuilder();
        StringBuilder oar = new StringBuilder();
        for (int i = 0; i < strengths.length(); i++) {
            fish.append(i > 0 ? ";" : "").append('t').append(strengths.charAt(i));
            oar.append(i > 0 ? ";" : "").append(i).append("220");
        }
        return Check.ferry(OPEN, fish.toString(), oar.toString());
    }

    private static int evensOf(String strengths) {
        return ferry(strengths).evens();
    }

    private static void strongest() {
        Says.of(32, "The FISH with the most PULL now: it, of equal ones the first");
        Says.are("[0, 1, 2, 0, 1]", ferry("1").strongest(), ferry("15").strongest(), ferry("159").strongest(), ferry("99").strongest(),
                ferry("3884").strongest());
        FishFerry x = ferry("9563");
        x.letsGo(0);
        Says.is("PULL, not STRENGTH", x.strongest(), 2);
        Says.is("none pulls", Check.ferry(OPEN, "t9;t9", "").strongest(), 0);

        Says.of(32, "the ROW: PULL, how many have as much.");
        Says.tells(x, x.strongest(), "2 [6, 1]");
        FishFerry like = ferry("3884888");
        Says.tells(like, like.strongest(), "1 [8, 5]");
        FishFerry none = Check.ferry(OPEN, "t9;e9", "");
        Says.tells("PULL 0", none, none.strongest(), "0 [0, 2]");

        Says.of(32, "-2: there are no FISH.");
        Says.is(new FishFerry().strongest(), -2);
    }

    private static void sways() {
        Says.of(33, "How many sets of the other FISH HOLDING with a PROMISE there are (others having let go) by which BOAT would go otherwise "
                + "in this HOUR (another way, or it STICKS) with a FISH than without it: how many");
        // 0: 5 down, 1: 3 right, 2: 4 right; 3 has no PROMISE, 4 does not HOLD.
        FishFerry x = Check.ferry(OPEN, "t5;t3;t4;t9;t9", "0200;1020;2020;4020");
        x.letsGo(4);
        Says.is("none, 3 or 4 to the right, but not both", x.sways(0), 3);
        Says.is("none, and 4 against 5", x.sways(1), 2);
        Says.is("none, and 3 against 5", x.sways(2), 2);
        FishFerry rock = Check.ferry("22.#..", "t5;t9", "0100;1010");
        Says.is("where it STICKS by a rock", rock.sways(1), 1);
        FishFerry there = Check.ferry(OPEN, "t5;t9", "0000;1010");
        Says.are("[0, 2]", there.sways(0), there.sways(1));

        Says.of(33, "the ROW: how many sets there are.");
        Says.tells(x, x.sways(0), "3 [4]");
        x.letsGo(4);
        Says.tells("one more HOLDS", x, x.sways(0), "3 [8]");
        x.promise(3, 0, 0);
        Says.tells("one more with a PROMISE, though it has no PULL", x, x.sways(0), "6 [16]");
        FishFerry one = Check.ferry(OPEN, "t5", "0220");
        Says.tells("the empty set alone", one, one.sways(0), "1 [1]");
        FishFerry eight = ferry("11111111");
        Says.tells("seven others", eight, eight.sways(7), "1 [128]");
    }

    private static void swaysEdges() {
        Says.of(33, "-2: it does not HOLD, or has no PROMISE");
        FishFerry x = Check.ferry(OPEN, "t5;t5", "0220");
        Says.is("no PROMISE", x.sways(1), -2);
        x.letsGo(0);
        Says.is("it does not HOLD", x.sways(0), -2);
        x.letsGo(1);
        Says.is("neither", x.sways(1), -2);
        Says.of(33, "NONE: none such.");
        Says.are("[-1, -1, -1]", x.sways(-1), x.sways(2), new FishFerry().sways(0));
    }

    private static void seen() {
        Says.of(34, "It was seen that in n HOURS (0 .. 20) from now BOAT is on a FIELD (is 1) or not (0): how many such.");
        FishFerry x = Check.ferry("22....", "t1", "");
        Says.is(x.seen(0, 0, 1) + " " + x.fits() + " " + x.row(1), "1 1 1");
        Says.is(x.seen(20, 3, 0) + " " + x.fits() + " " + x.row(1), "2 1 1");
        Says.is("the same again", x.seen(20, 3, 0) + " " + x.count(10), "3 3");
        Says.is("what can't be", x.seen(20, 3, 1) + " " + x.fits() + " " + x.row(1), "4 0 0");

        Says.of(34, "Refused: others, 10.");
        Says.are("[-1, -1, -1, -1]", x.seen(-1, 0, 0), x.seen(21, 0, 0), x.seen(0, -1, 0), x.seen(0, 4, 0));
        Says.are("[-1, -1, -1, 4]", x.seen(0, 0, -1), x.seen(0, 0, 2), x.seen(Integer.MIN_VALUE, 0, 0), x.count(10));
        for (int i = 5; i <= 10; i++) {
            Says.is(x.seen(1, 1, 0), i);
        }
        Says.are("[-1, 10]", x.seen(1, 1, 0), x.count(10));

        Says.of(35, "It is forgotten: how many there were.");
        Says.are("[10, 0, 0]", x.forget(), x.count(10), x.forget());
        Says.is("all fits again", x.fits() + " " + x.row(1), "1 1");
        Says.is("there is room again", x.seen(1, 1, 0), 1);
    }

    /**
     * Without 0 BOAT is at 0, 3, 6, 6, ..; without 1 at 0, 1, 2, 5, 5; without 2 at 0, 1, 2, 5, 4; with all at 0, 1, 2, ..
     * FISH 3 has no PROMISE and has let go.
     */
    private static FishFerry suspects() {
        FishFerry x = Check.ferry(OPEN, "t9;t4;t1;t1", "0020;1200;2200");
        x.letsGo(3);
        return x;
    }

    private static void fits() {
        Says.of(36, "FISH (bits) HOLDING each of which, had it alone let go now, would have all be as it was seen");
        FishFerry x = suspects();
        Says.is("nothing seen", x.fits(), 7);
        x.seen(1, 3, 1);
        Says.is("on 3", x.fits(), 1);
        x.forget();
        x.seen(1, 3, 0);
        Says.is("not on 3", x.fits(), 6);
        x.seen(4, 5, 1);
        Says.is("all of it", x.fits(), 2);
        x.seen(4, 4, 1);
        Says.is("what can't be", x.fits(), 0);
        x.forget();
        x.letsGo(3);
        x.seen(4, 5, 1);
        Says.is("without a PROMISE, too", x.fits() & 8, x.ahead(4) == 5 ? 8 : 0);

        Says.of(36, "the ROW: how many, 1 if it would be so with none letting go, else 0.");
        FishFerry y = suspects();
        Says.tells("nothing seen", y, y.fits(), "7 [3, 1]");
        y.seen(1, 3, 1);
        Says.tells("on 3", y, y.fits(), "1 [1, 0]");
        y.forget();
        y.seen(1, 1, 1);
        Says.tells("on 1", y, y.fits(), "6 [2, 1]");
        FishFerry none = new FishFerry();
        Says.tells("no FISH", none, none.fits(), "0 [0, 1]");
        none.seen(0, 1, 1);
        Says.tells("no FISH, what can't be", none, none.fits(), "0 [0, 0]");
    }

    private static void looks() {
        Says.of(37, "The HOUR (0 .. 20) to look in, so that, wherever BOAT is seen then, the fewest of those FISH are left at most; "
                + "of equal ones the first: it");
        FishFerry x = suspects();
        Says.is("6, 5 and 4 in HOUR 4", x.looks(), 4);
        x.seen(1, 3, 0);
        Says.is("of two", x.looks(), 4);
        x.seen(4, 5, 1);
        Says.is("of one", x.looks(), 0);
        FishFerry like = Check.ferry(OPEN, "t5;t5", "0010;1010");
        Says.is("they never part: the first HOUR", like.looks(), 0);

        Says.of(37, "the ROW: how many at most.");
        FishFerry y = suspects();
        Says.tells("one", y, y.looks(), "4 [1]");
        Says.tells("both", like, like.looks(), "0 [2]");
        FishFerry alone = Check.ferry(OPEN, "t5", "0010");
        Says.tells("the first alone", alone, alone.looks(), "0 [1]");
        FishFerry eight = Check.ferry(OPEN, "e1;e1;e1;e1;e1;e1;e1;e1", "");
        Says.tells("all eight", eight, eight.looks(), "0 [8]");
        y.letsGo(3);
        Says.tells("a fourth", y, y.looks(), fourth());

        Says.of(37, "-2: none fits.");
        Says.is("no FISH", new FishFerry().looks(), -2);
        y.seen(0, 1, 1);
        Says.is("what can't be", y.looks(), -2);
        FishFerry gone = Check.ferry(OPEN, "t5", "0010");
        gone.letsGo(0);
        Says.is("none HOLDS", gone.looks(), -2);
    }

    /** What is due with a fourth FISH by which BOAT is where it is with all: by its places one HOUR at a time. */
    private static String fourth() {
        int best = -1;
        int fewest = 9;
        for (int hour = 0; hour <= 20; hour++) {
            int[] on = new int[9];
            int most = 0;
            for (int fish = 0; fish < 4; fish++) {
                FishFerry x = suspects();
                x.letsGo(3);
                x.letsGo(fish);
                int field = x.ahead(hour);
                on[field]++;
                most = Math.max(most, on[field]);
            }
            if (most < fewest) {
                fewest = most;
                best = hour;
            }
        }
        return best + " [" + fewest + "]";
    }

    /** Two trout who pull in HOUR 39 alone, right and down. */
    private static void looksFar() {
        Says.of(37, "The HOUR (0 .. 20) to look in");
        FishFerry x = Check.ferry("22....", "t9;t9", "0010;1100");
        Check.put(x, "f*(n=4)").rule();
        Check.put(x, "00000000000000000009").fog();
        x.hours(19);
        Says.tells("21 HOURS on is too far", x, x.looks(), "0 [2]");
        x.hours(1);
        Says.tells("20 is not", x, x.looks(), "20 [1]");
        x.seen(20, 2, 1);
        Says.tells("down, when the first lets go", x, x.fits(), "1 [1, 0]");
        x.forget();
        x.seen(20, 1, 1);
        Says.tells("right, when the second does, or none", x, x.fits(), "2 [1, 1]");
    }
}
