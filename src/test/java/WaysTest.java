/** Promises 38 to 44: ways, fog, a game, laws, rests, years. */
public final class WaysTest {
    private static final String OPEN = "33.........";

    private WaysTest() {
    }

    private static void ways() {
        FishFerry x = Check.ferry("34....##.#....", "", "");
        // . . . .
        // # # . #
        // . . . .
        Check.is("none such", "" + x.way(-1, 0) + x.way(0, 12), "-1-1");
        Check.is("a rock", "" + x.way(4, 0) + x.way(0, 5) + x.way(4, 4), "-2-2-2");
        Check.is("nothing told", x.count(12), 0);
        Check.tells("itself", x, x.way(3, 3), "0 [3]");
        Check.tells("round", x, x.way(0, 8), "6 [0, 1, 2, 6, 10, 9, 8]");
        Check.tells("and back", x, x.way(11, 0), "5 [11, 10, 6, 2, 1, 0]");
        FishFerry open = Check.ferry(OPEN, "", "");
        Check.tells("the least row", open, open.way(8, 0), "4 [8, 5, 2, 1, 0]");
        Check.tells("the least row", open, open.way(2, 6), "4 [2, 1, 0, 3, 6]");
        FishFerry cut = Check.ferry("33.#.##....", "", "");
        Check.is("no way", cut.way(0, 8), -2);
    }

    private static void longestWay() {
        FishFerry x = Check.ferry("66" + ".#...#" + ".#.#.#" + ".#.#.#" + ".#.#.#" + ".#.#.#" + "...#..", "", "");
        Check.is("a winding one", x.way(0, 35), 20);
        Check.is("all its fields", x.count(12), 21);
        Check.is("the last", x.row(20), 35);
    }

    private static void farthest() {
        FishFerry x = Check.ferry("34....##.#....", "", "");
        Check.tells("the far corner", x, x.farthest(), "8 [6, 0]");
        FishFerry open = Check.ferry("22....", "", "");
        Check.tells("the other corner", open, open.farthest(), "3 [2, 0]");
        FishFerry cut = Check.ferry("33.#.##....", "", "");
        Check.tells("nowhere to go", cut, cut.farthest(), "0 [0, " + (1 << 2 | 1 << 5 | 1 << 6 | 1 << 7 | 1 << 8) + "]");
        FishFerry rock = Check.ferry("22#...", "", "");
        Check.tells("from a rock", rock, rock.farthest(), "3 [2, 0]");
        FishFerry alone = Check.ferry("22####", "", "");
        Check.tells("all rocks", alone, alone.farthest(), "0 [0, 0]");
        FishFerry like = Check.ferry("23......", "t5", "0020");
        like.hours(1);
        Check.tells("of equal ones the first", like, like.farthest(), "3 [2, 0]");
        FishFerry wide = Check.ferry("66" + ".".repeat(35) + ".", "", "");
        Check.put(wide, "66.#" + "#".repeat(33) + ".").lake();
        Check.tells("field 35 as a bit", wide, wide.farthest(), "0 [0, " + (1L << 35) + "]");
    }

    private static void drifts() {
        FishFerry x = Check.ferry(OPEN, "t5;t3;t9", "0200;1020");
        Check.is("others", "" + x.drifts(-1, 0) + x.drifts(5, 0) + x.drifts(0, -1) + x.drifts(0, 11), "-1-1-1-1");
        Check.is("nothing told", x.count(12), 0);
        Check.tells("down: 5 holds", x, x.drifts(2, 3), "0 [7, 10]");
        Check.tells("right: 5 let go, 3 holds", x, x.drifts(1, 3), "0 [21, 100]");
        Check.tells("it sticks", x, x.drifts(4, 3), "0 [9, 100]");
        Check.tells("never", x, x.drifts(0, 3), "0 [0, 1]");
        Check.tells("for sure", x, x.drifts(2, 0), "0 [1, 1]");
        Check.tells("all let go", x, x.drifts(4, 10), "0 [1, 1]");
        FishFerry eight = Check.ferry(OPEN, "t1;t1;t1;t1;t1;t1;t1;t1", "0010;1010;2010;3010;4010;5010;6010;7010");
        Check.tells("eight", eight, eight.drifts(4, 1), "0 [1, 100000000]");
        Check.tells("eight", eight, eight.drifts(1, 1), "0 [99999999, 100000000]");
    }

    private static void games() {
        FishFerry x = new FishFerry();
        Check.is("others", "" + x.game(-1, 2) + x.game(61, 2) + x.game(5, 1) + x.game(5, 10) + x.game(0, 1), "-1-1-1-1-1");
        Check.is("none", x.game(0, 9), -2);
        Check.is("nothing told", x.count(12), 0);
        Check.tells("one", x, x.game(1, 9), "1 [1]");
        Check.tells("two", x, x.game(2, 9), "1 [2]");
        // Of 3: eat 1, the pike eats 1 of 2 (3 are too many), the last one is the trout's.
        Check.tells("three, by 3", x, x.game(3, 3), "1 [1]");
        Check.tells("three, by 2", x, x.game(3, 2), "0 []");
        // By 2 it is the old game of threes.
        for (int n = 1; n <= 60; n++) {
            int due = n % 3 == 0 ? 0 : 1;
            Check.tells("by 2, " + n, x, x.game(n, 2), due == 0 ? "0 []" : "1 [" + n % 3 + "]");
        }
    }

    private static void laws() {
        FishFerry x = Check.ferry(OPEN, "t3;p4;e1", "0220;1210");
        // By s-d: the trout wants down (3), the pike up (4): it sticks; by (k=0)*9: down, down, right, right.
        Check.is("law", Check.put(x, "(k=0)*9+k").law(), 8);
        String told = Check.row(x).toString();
        Check.is("that by THE RULE, PULLS by the law", told, "[" + x.ahead(12) + ", 9, 1, 0]");
        Check.is("THE RULE stays", x.one(0, 7), 3);
        Check.is("nothing changed", "" + x.count(3) + x.count(7) + x.count(11), "001");
        Check.put(x, "0").rule();
        Check.is("none: s-d+(c>u)", Check.put(x, "").law(), 0);
        Check.is("told", Check.row(x), "[0, 3, 4, 0]");
        Check.is("the text is gone", x.count(13), 0);
        // Hours 0 .. 11: n is 5 once, below 2 four times.
        FishFerry y = Check.ferry("26............", "t1", "0150");
        Check.put(y, "n<2").rule();
        Check.is("twelve hours", Check.put(y, "n=5").law(), 1);
        Check.is("twelve hours by THE RULE", Check.row(y), "[4, 0]");
    }

    private static void rests() {
        FishFerry x = new FishFerry();
        Check.is("others", "" + x.rests(-1) + x.rests(21), "-1-1");
        Check.is("nothing told", x.count(12), 0);
        Check.tells("for nothing", x, x.rests(0), "2 [0, 0]");
        Check.tells("for 2: like ones up to 3", x, x.rests(2), "4 [0, 0]");
        Check.tells("for 20: all they can", x, x.rests(20), "1 [9, 9]");
        for (int v = 0; v <= 20; v++) {
            String due = restsDue(v);
            Check.tells("rests " + v, x, x.rests(v), due);
        }
    }

    private static String restsDue(int v) {
        int pairs = 0;
        String least = "[]";
        for (int x = 9; x >= 0; x--) {
            for (int y = 9; y >= 0; y--) {
                boolean content = true;
                for (int z = 0; z <= 9; z++) {
                    content = content && has(z, y, v) <= has(x, y, v) && has(z, x, v) <= has(y, x, v);
                }
                if (content) {
                    pairs++;
                    least = "[" + x + ", " + y + "]";
                }
            }
        }
        return pairs + " " + least;
    }

    private static int has(int mine, int others, int v) {
        if (mine == others) {
            return v / 2 - mine / 2;
        }
        return mine > others ? v - mine : mine > 0 ? -1 : 0;
    }

    private static void years() {
        FishFerry none = new FishFerry();
        Check.is("another n", "" + none.years(1, 0) + none.years(1, 61), "-1-1");
        Check.is("nothing told", none.count(12), 0);
        Check.tells("no FISH", none, none.years(7, 60), "0 [0, 0]");
        Check.is("no HOUR passed", none.count(7), 0);
        FishFerry one = Check.ferry(OPEN, "t5", "0110");
        Check.is("one fish", one.years(3, 60) + " " + Check.row(one), byHand(one, 3, 60));
        FishFerry broken = Check.ferry(OPEN, "t5;t5;t5", "0009;1009;2009");
        broken.hours(1);
        Check.is("more than 2 kept, 1 broken", broken.years(9, 60) + " " + Check.row(broken), byHand(broken, 9, 60));
        for (int seed = -40; seed < 40; seed++) {
            FishFerry x = Check.ferry(OPEN, "t5;p4;e3;s6", "0220;3116");
            x.promise(1, 0, 1);
            x.hours(1);
            x.promise(1, 3, 1);
            String before = Check.state(x);
            int n = 1 + (seed + 40) % 60;
            int got = x.years(seed * 77777777, n);
            String told = Check.row(x).toString();
            Check.is("a question", Check.state(x), before);
            Check.is("years " + seed, got + " " + told, byHand(x, seed * 77777777, n));
        }
    }

    /** The same by the ferry's own acts. */
    private static String byHand(FishFerry x, int seed, int n) {
        long r = seed & 0xFFFFFFFFL;
        int kept = x.count(5);
        int broken = x.count(6);
        for (int i = 0; i < n; i++) {
            r = next(r);
            int what = (int) (r / 65536 % 4);
            if (what < 2) {
                x.hours(1);
            } else {
                r = next(r);
                int fish = (int) (r / 65536 % x.count(2));
                if (what == 3) {
                    x.letsGo(fish);
                } else {
                    r = next(r);
                    int field = (int) (r / 65536 % (x.count(0) * x.count(1)));
                    r = next(r);
                    x.promise(fish, field, (int) (r / 65536 % 4));
                }
            }
        }
        return x.count(3) + " [" + (x.count(5) - kept) + ", " + (x.count(6) - broken) + "]";
    }

    private static long next(long r) {
        return r * 1103515245L + 12345 & 0xFFFFFFFFL;
    }

    public static void main(String[] args) {
        ways();
        longestWay();
        farthest();
        drifts();
        games();
        laws();
        rests();
        years();
        Check.finish();
    }
}
