/** Promises 38 to 44, sentence by sentence. */
final class WaysEdges {
    private static final String OPEN = "33.........";
    private static final String WINDING = "66" + "......" + "#####." + "......" + ".#####" + "......" + "#####.";

    private WaysEdges() {
    }

    static void run() {
        ways();
        farthest();
        drifts();
        games();
        laws();
        rests();
        years();
        draws();
    }

    private static void ways() {
        Says.of(38, "The fewest steps (up, right, down, left, over water) from a FIELD to another one: how many");
        FishFerry x = Check.ferry(OPEN, "", "");
        Says.are("[1, 1, 1, 1, 2, 4]", x.way(4, 1), x.way(4, 5), x.way(4, 7), x.way(4, 3), x.way(4, 8), x.way(0, 8));
        Says.is("itself", x.way(4, 4), 0);
        Says.is("over water", Check.ferry("33.#..#....", "", "").way(0, 2), 6);
        FishFerry winding = Check.ferry(WINDING, "", "");
        Says.are("[20, 20]", winding.way(0, 35), winding.way(35, 0));

        Says.of(38, "the ROW: FIELDS in turn: of as short ways the least row.");
        Says.tells(x, x.way(0, 8), "4 [0, 1, 2, 5, 8]");
        Says.tells(x, x.way(8, 0), "4 [8, 5, 2, 1, 0]");
        Says.tells(x, x.way(6, 2), "4 [6, 3, 0, 1, 2]");
        Says.tells("itself", x, x.way(4, 4), "0 [4]");
        winding.way(0, 35);
        Says.is("the longest", winding.count(12) + " " + winding.row(0) + " " + winding.row(20), "21 0 35");

        Says.of(38, "-2: there is none, or one is a rock");
        FishFerry cut = Check.ferry("33.#.##....", "", "");
        Says.is("none", cut.way(0, 8) + " " + cut.way(8, 0), "-2 -2");
        Says.is("a rock", cut.way(1, 0) + " " + cut.way(0, 1) + " " + cut.way(1, 1) + " " + cut.way(3, 4), "-2 -2 -2 -2");
        Says.is("BOAT's rock", Check.ferry("22#...", "", "").way(0, 1), -2);

        Says.of(38, "NONE: none such.");
        Says.are("[-1, -1, -1, -1]", x.way(-1, 0), x.way(0, -1), x.way(9, 0), x.way(0, 9));
        Says.are("[-1, -1, -1]", cut.way(1, 9), cut.way(9, 1), x.way(Integer.MIN_VALUE, Integer.MAX_VALUE));
    }

    private static void farthest() {
        Says.of(39, "The FIELD of water that is the farthest from BOAT by such steps (BOAT's FIELD as water): it, of equal ones the first");
        Says.are("[8, 35]", Check.ferry(OPEN, "", "").farthest(), Check.ferry(WINDING, "", "").farthest());
        Says.is("by steps", Check.ferry("34....##.#....", "", "").farthest(), 8);
        FishFerry centre = Check.ferry(OPEN, "t9", "0110");
        centre.hours(2);
        Says.is("of equal ones the first", centre.farthest(), 0);
        Says.is("BOAT's rock as water", Check.ferry("22#...", "", "").farthest(), 3);
        Says.is("itself alone", Check.ferry("22.##.", "", "").farthest(), 0);
        Says.is("all rocks", Check.ferry("22####", "", "").farthest(), 0);

        Says.of(39, "the ROW: how many steps, FIELDS of water to which there is no way (bits).");
        FishFerry x = Check.ferry(WINDING, "", "");
        Says.tells(x, x.farthest(), "35 [20, 0]");
        FishFerry cut = Check.ferry("22.##.", "", "");
        Says.tells("itself alone", cut, cut.farthest(), "0 [0, 8]");
        FishFerry rocks = Check.ferry("22####", "", "");
        Says.tells("no rocks among them", rocks, rocks.farthest(), "0 [0, 0]");
        FishFerry far = Check.ferry("66.." + "#".repeat(32) + "..", "", "");
        Says.tells("beyond an int's bits", far, far.farthest(), "1 [1, " + (3L << 34) + "]");
    }

    private static void drifts() {
        Says.of(40, "In this HOUR each FISH with PULL above 0 lets go by p tenths (0 .. 10), each by itself: "
                + "how likely BOAT goes a way (0 .. 3; 4: it STICKS): 0");
        // 0: 5 down, 1: 3 right; 2 has PULL 0, 3 does not HOLD.
        FishFerry x = Check.ferry(OPEN, "t5;t3;t9;t9", "0200;1020;2000;3020");
        x.letsGo(3);
        Says.are("[0, 0, 0, 0, 0]", x.drifts(0, 3), x.drifts(1, 3), x.drifts(2, 3), x.drifts(3, 3), x.drifts(4, 3));

        Says.of(40, "the ROW: the fraction.");
        Says.tells("up: never", x, x.drifts(0, 3), "0 [0, 1]");
        Says.tells("right: 3 tenths of 7", x, x.drifts(1, 3), "0 [21, 100]");
        Says.tells("down", x, x.drifts(2, 3), "0 [7, 10]");
        Says.tells("left: never", x, x.drifts(3, 3), "0 [0, 1]");
        Says.tells("it STICKS: both let go", x, x.drifts(4, 3), "0 [9, 100]");
        Says.tells("0 tenths", x, x.drifts(2, 0), "0 [1, 1]");
        Says.tells("0 tenths", x, x.drifts(4, 0), "0 [0, 1]");
        Says.tells("10 tenths", x, x.drifts(4, 10), "0 [1, 1]");
        Says.tells("10 tenths", x, x.drifts(2, 10), "0 [0, 1]");
        FishFerry none = new FishFerry();
        Says.tells("no FISH", none, none.drifts(4, 5), "0 [1, 1]");
        FishFerry eight = Check.ferry(OPEN, "t1;t1;t1;t1;t1;t1;t1;t1", "0010;1010;2010;3010;4010;5010;6010;7010");
        Says.tells("eight", eight, eight.drifts(4, 3), "0 [6561, 100000000]");
        Says.tells("eight", eight, eight.drifts(1, 3), "0 [99993439, 100000000]");
        Says.tells("eight", eight, eight.drifts(4, 5), "0 [1, 256]");
        FishFerry rock = Check.ferry("22.#..", "t5;t3", "0010;1100");
        Says.tells("a rock: right or none", rock, rock.drifts(4, 5), "0 [3, 4]");
        Says.tells("a rock: down", rock, rock.drifts(2, 5), "0 [1, 4]");

        Says.of(40, "NONE: others.");
        Says.are("[-1, -1, -1, -1]", x.drifts(-1, 0), x.drifts(5, 0), x.drifts(0, -1), x.drifts(0, 11));
    }

    private static void games() {
        Says.of(41, "n crumbs (0 .. 60) lie on the water; trout and pike eat by turns, the trout first: it 1 or 2, the pike 1 or k (2 .. 9), "
                + "no more than there are; who eats the last one wins: 1 if the trout wins by best play, else 0");
        FishFerry x = new FishFerry();
        for (int k = 2; k <= 9; k++) {
            for (int n = 1; n <= 60; n++) {
                Says.is("game " + n + ", " + k, x.game(n, k), played(n, 2, k)[n] ? 1 : 0);
            }
        }
        Says.are("[1, 1, 0, 1]", x.game(1, 9), x.game(2, 9), x.game(3, 2), x.game(3, 3));

        Says.of(41, "the ROW: the least number it eats so that it wins (nothing, if it loses).");
        for (int k = 2; k <= 9; k++) {
            for (int n = 1; n <= 60; n++) {
                boolean[] pike = played(n, k, 2);
                String due = !pike[n - 1] ? "1 [1]" : n > 1 && !pike[n - 2] ? "1 [2]" : "0 []";
                Says.tells("game " + n + ", " + k, x, x.game(n, k), due);
            }
        }

        Says.of(41, "-2: there are none");
        Says.are("[-2, -2]", x.game(0, 2), x.game(0, 9));
        Says.of(41, "NONE: others.");
        Says.are("[-1, -1, -1, -1, -1]", x.game(-1, 2), x.game(61, 2), x.game(5, 1), x.game(5, 10), x.game(5, -1));
    }

    /** Whether who is first and eats 1 or so many wins, for each number of crumbs, if the other eats 1 or so many. */
    private static boolean[] played(int n, int mine, int others) {
        boolean[] first = new boolean[n + 1];
        boolean[] second = new boolean[n + 1];
        for (int m = 1; m <= n; m++) {
            first[m] = !second[m - 1] || m >= mine && !second[m - mine];
            second[m] = !first[m - 1] || m >= others && !first[m - others];
        }
        return first;
    }

    private static int law(FishFerry x, String text) {
        return Check.put(x, text).law();
    }

    private static void laws() {
        Says.of(42, "THE TEXT is another RULE (an empty one: none): the FIELD where BOAT is in 12 HOURS by it, if nothing else is done");
        FishFerry x = Check.ferry("26............", "t9;p2", "0050");
        Says.are("[5, 0]", law(x, "9"), law(x, "0"));
        Check.put(x, "0").rule();
        Says.is("none: s-d+(c>u)", law(x, "") + " " + Check.row(x) + " " + x.count(13), "5 [0, 9, 0] 0");
        // FOG is 9 in one HOUR alone, the twelfth or the thirteenth.
        FishFerry fog = Check.ferry("22....", "t9", "0010");
        Check.put(fog, "00000000000900000000").fog();
        Says.is("in the twelfth", law(fog, "f"), 1);
        Check.put(fog, "00000000000090000000").fog();
        Says.is("not in the thirteenth", law(fog, "f"), 0);

        Says.of(42, "the ROW: that by THE RULE, PULLS by it now, in turn.");
        FishFerry y = Check.ferry("26............", "t3;p2;e9;s4", "0050;1050;3010");
        Check.put(y, "(k=0)*7").rule();
        Says.tells("0 by the law, 5 by THE RULE", y, law(y, "(k=1)*8+(k=3)"), "0 [5, 0, 8, 0, 1]");
        FishFerry none = new FishFerry();
        Says.tells("no FISH", none, law(none, "s"), "0 [0]");

        Says.of(42, "-10000 - p: the sign at p can't stand there (as rule()).");
        Says.are("[-10000, -10002, -10003, -10004]", law(y, "x"), law(y, "s+"), law(y, "1<2<3"), law(y, "((((("));
        String forty = "s+".repeat(19) + "10";
        Says.is("40 and 41 signs", (law(y, forty) >= 0) + " " + law(y, forty + "0") + " " + law(y, "s+".repeat(20)), "true -10040 -10040");
        Says.is("THE RULE stays", y.one(0, 7) + " " + y.one(1, 7), "7 0");
    }

    private static void rests() {
        Says.of(43, "Two promise a shoal x and y (0 .. 9) crumbs; who promises more has v (0 .. 20) and pays its own; "
                + "of like ones both have half (cut) and pay half (cut); who promises less pays nothing, but 1, if it promised anything.");
        FishFerry x = new FishFerry();
        Says.is("for 0: 0 and 0, or 1 and 1, who have and pay 0", x.rests(0), 2);
        Says.is("for 20: 9 and 9, who pay 4 of 10", x.rests(20), 1);
        Says.of(43, "Pairs by which neither would have more by another number alone: how many");
        for (int v = 0; v <= 20; v++) {
            Says.is("for " + v, x.rests(v) + " " + Check.row(x), pairs(v));
        }
        Says.of(43, "the ROW: the least (nothing without).");
        Says.tells("for 0", x, x.rests(0), "2 [0, 0]");
        Says.tells("for 20", x, x.rests(20), "1 [9, 9]");
        for (int v = 0; v <= 20; v++) {
            int pairs = x.rests(v);
            Says.is("two numbers for " + v, x.count(12), pairs == 0 ? 0 : 2);
        }
        Says.of(43, "NONE: another v.");
        Says.are("[-1, -1, -1]", x.rests(-1), x.rests(21), x.rests(Integer.MIN_VALUE));
    }

    /** Pairs at rest, counted from the last one, and the least one. */
    private static String pairs(int v) {
        int pairs = 0;
        String least = "[]";
        for (int pair = 99; pair >= 0; pair--) {
            int x = pair / 10;
            int y = pair % 10;
            boolean rests = true;
            for (int z = 0; z <= 9; z++) {
                rests &= has(z, y, v) <= has(x, y, v) && has(z, x, v) <= has(y, x, v);
            }
            if (rests) {
                pairs++;
                least = "[" + x + ", " + y + "]";
            }
        }
        return pairs + " " + least;
    }

    private static int has(int mine, int others, int v) {
        if (mine > others) {
            return v - mine;
        }
        if (mine < others) {
            return mine == 0 ? 0 : -1;
        }
        return v / 2 - mine / 2;
    }

    /** The first seed from 0 on whose first DRAW of 4 tells this. */
    private static int seedFor(int told) {
        for (int seed = 0; seed < 1000; seed++) {
            if ((seed * 1103515245 + 12345 >>> 16) % 4 == told) {
                return seed;
            }
        }
        return -1;
    }

    private static void years() {
        Says.of(44, "n times (1 .. 60): a DRAW of 4 tells: 0, 1: AN HOUR");
        FishFerry x = Check.ferry(OPEN, "t9", "0220");
        Says.are("[3, 3, 0, 0]", x.years(seedFor(0), 1), x.years(seedFor(1), 1), x.years(seedFor(2), 1), x.years(seedFor(3), 1));
        Says.is("60 times", told(x, 5, 60), byActs(x, 5, 60));

        Says.of(44, "2: a DRAW of FISH, a DRAW of FIELDS, a DRAW of 4 tell a PROMISE (CRUMBS), if it can be");
        for (int seed = 0; seed < 60; seed++) {
            FishFerry some = Check.ferry(OPEN, "t9;e9;s8;p7;t6", "4000");
            some.takesBack(4);
            some.promise(4, 8, 0);
            some.takesBack(4);
            Says.is("an eel and one without TRUST among them, seed " + seed, told(some, seed, 40), byActs(some, seed, 40));
        }
        for (int seed = 0; seed < 60; seed++) {
            FishFerry empty = Check.ferry(OPEN, "t9;t9;s9", "0009;1009;2002");
            empty.hours(1);
            Says.is("crumbs out of an empty STORE, seed " + seed, told(empty, seed, 60), byActs(empty, seed, 60));
        }
        Says.of(44, "3: a DRAW of FISH tells one that lets go or takes HOLD (2, 3: no DRAWS without FISH): the FIELD where BOAT is then");
        for (int seed = -30; seed < 30; seed++) {
            FishFerry some = Check.ferry(OPEN, "t9;t8", "0220;1020");
            Says.is("seed " + seed, told(some, seed * 123456789, 5), byActs(some, seed * 123456789, 5));
        }
        FishFerry none = new FishFerry();
        Says.tells("without FISH", none, none.years(99, 60), "0 [0, 0]");

        Says.of(44, "the ROW: KEPT, BROKEN more in these.");
        FishFerry kept = Check.ferry(OPEN, "t9;t1;t1;t1;t1;t1", "0009;1009;2009");
        kept.hours(1);
        Check.put(kept, "3000;4009;5001").oar();
        Says.is("2 kept and 1 broken ahead of it", Check.counts(kept, 5, 6), "2 1");
        Says.tells("in these", kept, kept.years(seedFor(0), 1), "0 [2, 1]");
        Says.is("a question", Check.counts(kept, 3, 5, 6, 7), "0 2 1 1");

        Says.of(44, "NONE: another n.");
        Says.are("[-1, -1, -1]", x.years(1, 0), x.years(1, 61), x.years(1, -1));
    }

    private static void draws() {
        Says.of(44, "A DRAW of n: R = R times 1103515245 + 12345 (as ints; R is seed at first), (R without sign, by 65536) % n.");
        int[] seeds = {0, 1, -1, Integer.MAX_VALUE, Integer.MIN_VALUE, 65535, 65536, -65536, 1103515245, -12345};
        for (int seed : seeds) {
            for (int n = 1; n <= 60; n += 7) {
                FishFerry x = Check.ferry("34............", "t9;s7;p8", "0230;1110");
                Says.is("seed " + seed + ", " + n, told(x, seed, n), byActs(x, seed, n));
            }
        }
    }

    private static String told(FishFerry x, int seed, int n) {
        return x.years(seed, n) + " " + Check.row(x);
    }

    /** The same by the ferry's own acts, with R held as a long without sign. */
    private static String byActs(FishFerry x, int seed, int n) {
        long r = seed & 0xFFFFFFFFL;
        int kept = x.count(5);
        int broken = x.count(6);
        for (int i = 0; i < n; i++) {
            r = next(r);
            long what = r / 65536 % 4;
            if (what < 2) {
                x.hours(1);
                continue;
            }
            r = next(r);
            int fish = (int) (r / 65536 % x.count(2));
            if (what == 3) {
                x.letsGo(fish);
                continue;
            }
            r = next(r);
            int field = (int) (r / 65536 % (x.count(0) * x.count(1)));
            r = next(r);
            x.promise(fish, field, (int) (r / 65536 % 4));
        }
        return x.count(3) + " [" + (x.count(5) - kept) + ", " + (x.count(6) - broken) + "]";
    }

    private static long next(long r) {
        return r * 1103515245L + 12345 & 0xFFFFFFFFL;
    }
}
