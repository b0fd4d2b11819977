/** Promises 30 to 37: tugs, minds, who let go. */
public final class MindsTest {
    private static final String OPEN = "33.........";

    private MindsTest() {
    }

    private static void minds() {
        FishFerry x = Check.ferry(OPEN, "t1;s1;s1;p1;s1", "0110;1220;2010;3220;4000");
        Check.tells("as many rows as columns, not 0", x, x.minds(), "11 [3, 2]");
        x.letsGo(1);
        Check.tells("who let go, too", x, x.minds(), "11 [3, 2]");
        FishFerry y = Check.ferry(OPEN, "t1", "");
        Check.tells("no PROMISE", y, y.minds(), "0 [0, 0]");
        FishFerry away = Check.ferry(OPEN, "t9;t1;s1;s1", "0220;1200;2010");
        away.hours(3);
        away.letsGo(0);
        Check.is("BOAT", away.count(3), 7);
        Check.put(away, "1200;2120;3100").oar();
        Check.tells("from there", away, away.minds(), "12 [2, 12]");
    }

    private static void evens() {
        FishFerry x = Check.ferry(OPEN, "t5;t3;t6", "0220;1220;2220");
        Check.tells("5 and 3 against 6", x, x.evens(), "2 [3, 8]");
        Check.tells("once more", x, x.evens(), "2 [3, 8]");
        FishFerry y = Check.ferry(OPEN, "t4;t4;e9;t9", "0220;1220");
        Check.tells("who pulls alone", y, y.evens(), "0 [1, 4]");
        FishFerry one = Check.ferry(OPEN, "t1;t7", "1220");
        Check.tells("one", one, one.evens(), "7 [0, 0]");
        FishFerry three = Check.ferry(OPEN, "t9;t4;t5", "0220;1220;2220");
        Check.tells("the least bits", three, three.evens(), "0 [1, 9]");
        FishFerry last = Check.ferry(OPEN, "t4;t5;t9", "0220;1220;2220");
        Check.tells("the least bits", last, last.evens(), "0 [3, 9]");
    }

    private static void strongest() {
        FishFerry x = Check.ferry(OPEN, "t5;t3;t5", "");
        Check.tells("none pulls", x, x.strongest(), "0 [0, 3]");
        Check.put(x, "1220;2220").oar();
        Check.tells("the third", x, x.strongest(), "2 [5, 1]");
        Check.put(x, "0010").oar();
        Check.tells("of equal ones the first", x, x.strongest(), "0 [5, 2]");
        FishFerry none = new FishFerry();
        Check.is("no FISH", none.strongest(), -2);
        Check.is("nothing told", none.count(12), 0);
    }

    private static void sways() {
        FishFerry x = Check.ferry(OPEN, "t5;t3;t4;t9;e1", "0200;1020;2020");
        Check.is("none such", "" + x.sways(-1) + x.sways(5), "-1-1");
        Check.is("no PROMISE", x.sways(3), -2);
        Check.is("nothing told", x.count(12), 0);
        // With 5 down: no other: sticks; 3 or 4 right: right; both: right (7) all the same.
        Check.tells("5 down", x, x.sways(0), "3 [4]");
        // 3 right: alone it counts; against 5 not; with 4 not; with 4 against 5 it does.
        Check.tells("3 right", x, x.sways(1), "2 [4]");
        x.letsGo(1);
        Check.tells("without 1", x, x.sways(0), "2 [2]");
        Check.is("does not HOLD", x.sways(1), -2);
        FishFerry edge = Check.ferry("22....", "p5", "0010");
        Check.tells("it sticks with it and without", edge, edge.sways(0), "0 [1]");
    }

    private static void seen() {
        FishFerry x = Check.ferry(OPEN, "t4;t4", "0200;1020");
        Check.is("others", "" + x.seen(-1, 0, 0) + x.seen(21, 0, 0) + x.seen(0, -1, 0) + x.seen(0, 9, 0) + x.seen(0, 0, -1)
                + x.seen(0, 0, 2), "-1-1-1-1-1-1");
        for (int i = 1; i <= 10; i++) {
            Check.is("seen", x.seen(20, 8, 0), i);
        }
        Check.is("an eleventh", x.seen(20, 8, 0), -1);
        Check.is("count", x.count(10), 10);
        Check.is("forget", x.forget(), 10);
        Check.is("nothing to forget", x.forget(), 0);
        Check.is("count", x.count(10), 0);
        Check.is("no acts", x.count(11), 1);
    }

    private static void fits() {
        // With both it goes right twice (the first of equal ones), then 0 tows it down.
        FishFerry x = Check.ferry(OPEN, "t4;t4;t9", "0200;1020");
        Check.tells("nothing was seen: all that HOLD", x, x.fits(), "7 [3, 1]");
        x.seen(1, 3, 1);
        Check.tells("down: 1 let go", x, x.fits(), "2 [1, 0]");
        x.forget();
        x.seen(1, 1, 1);
        Check.tells("right: none, or 0, or 2", x, x.fits(), "5 [2, 1]");
        x.letsGo(2);
        Check.tells("those that HOLD", x, x.fits(), "1 [1, 1]");
        x.seen(3, 2, 0);
        Check.tells("not at 2 then", x, x.fits(), "0 [0, 1]");
        x.forget();
        x.seen(0, 0, 0);
        Check.tells("it is where it is", x, x.fits(), "0 [0, 0]");
    }

    private static void looks() {
        FishFerry x = Check.ferry(OPEN, "t4;t4;t9", "0200;1020");
        // Without 0 it is at 0, 1, 2, 2, without 1 at 0, 3, 6, 6, without 2 at 0, 1, 2, 5.
        Check.tells("all three fit", x, x.looks(), "3 [1]");
        x.seen(1, 3, 1);
        Check.tells("one fits", x, x.looks(), "0 [1]");
        x.seen(1, 3, 0);
        Check.is("none fits", x.looks(), -2);
        Check.is("a row stays", Check.row(x), "[1]");
        FishFerry y = Check.ferry(OPEN, "t4;t4;t9", "");
        Check.tells("nobody pulls", y, y.looks(), "0 [3]");
        FishFerry late = Check.ferry("22....", "t9;t9", "0010");
        Check.put(late, "f").rule();
        Check.put(late, "00000000000000000009").fog();
        Check.tells("in the twentieth", late, late.looks(), "20 [1]");
        late.seen(20, 1, 1);
        Check.tells("seen there", late, late.fits(), "2 [1, 1]");
        FishFerry eight = Check.ferry("22....", "t1;t1;t1;t1;t1;t1;t1;t1", "");
        Check.tells("eight alike", eight, eight.looks(), "0 [8]");
        Check.is("seen from now on", y.seen(0, 0, 1), 1);
        y.promise(0, 1, 0);
        y.hours(1);
        Check.tells("in other hours", y, y.fits(), "0 [0, 0]");
    }

    public static void main(String[] args) {
        minds();
        evens();
        strongest();
        sways();
        seen();
        fits();
        looks();
        Check.finish();
    }
}
