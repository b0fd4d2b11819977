/** Promises 45 to 48: keep, again, count, row. */
public final class KeptTest {
    private KeptTest() {
    }

    private static FishFerry ferry() {
        return Check.ferry("33.........", "t5;s4", "0022;1211");
    }

    private static void nothingKept() {
        FishFerry x = new FishFerry();
        Check.is("nothing kept at first", "" + x.again(0) + x.again(1) + x.again(2), "falsefalsefalse");
    }

    private static void keepAndAgain() {
        FishFerry x = ferry();
        Check.is("keep", "" + x.keep(-1) + x.keep(3), "falsefalse");
        Check.is("nothing kept", "" + x.again(0) + x.again(1) + x.again(2) + x.again(-1) + x.again(3), "falsefalsefalsefalsefalse");
        Check.is("still one to undo", x.count(11), 1);
        Check.is("keep 0", x.keep(0), true);
        String first = Check.state(x);
        x.hours(3);
        x.takesBack(1);
        x.letsGo(0);
        x.buys(9);
        Check.is("keep 2", x.keep(2), true);
        String second = Check.state(x);
        Check.is("again 0", x.again(0), true);
        Check.is("as it was, nothing to undo", Check.state(x), zeroUndo(first));
        Check.is("nothing to undo", x.undo(), -1);
        Check.is("again 2", x.again(2), true);
        Check.is("as it was", Check.state(x), zeroUndo(second));
        Check.is("again 0 twice", x.again(0) && x.again(0), true);
        x.buys(1);
        Check.is("keep anew", x.keep(0), true);
        x.buys(1);
        Check.is("again", x.again(0), true);
        Check.is("the later one", x.count(4), 21);
        Check.is("not under 1", x.again(1), false);
    }

    /** A state's text with nothing that can be undone. */
    private static String zeroUndo(String state) {
        String[] numbers = state.split(" ", 13);
        numbers[11] = "0";
        return String.join(" ", numbers);
    }

    private static void whatIsNotKept() {
        FishFerry x = ferry();
        x.keep(1);
        x.sheet(2, 2, 9, 0);
        Check.put(x, "8").fog();
        Check.put(x, "s-4").rule();
        x.seen(1, 1, 1);
        x.again(1);
        Check.is("STRENGTH, FOG, RULE, seen are as now", "" + x.one(0, 1) + x.count(8) + x.one(0, 7) + x.count(10), "9851");
        Check.put(x, "").fish();
        Check.put(x, "t").fish();
        Check.put(x, "2").lake();
        Check.is("refused and empty ones leave it", x.again(1), true);
        Check.put(x, "t1").fish();
        Check.is("FISH came since", x.again(1), false);
        x.keep(1);
        Check.put(x, "22....").lake();
        Check.is("THE LAKE came since", x.again(1), false);
    }

    private static void counts() {
        FishFerry x = Check.ferry("34............", "t5;s4;e1", "0025");
        Check.put(x, "36").fog();
        x.letsGo(1);
        x.hours(1);
        x.seen(3, 3, 0);
        x.sign(0);
        long[] due = {3, 4, 3, 1, 20, 0, 0, 1, 6, 5, 1, 3, 3, 4};
        for (int what = 0; what < due.length; what++) {
            Check.is("count " + what, x.count(what), due[what]);
        }
        Check.is("another what", "" + x.count(-1) + x.count(14) + x.count(Integer.MIN_VALUE), "-100-100-100");
        x.hours(1);
        Check.is("KEPT, STORE", "" + x.count(5) + x.count(4), "115");
    }

    private static void rows() {
        FishFerry x = ferry();
        Check.is("no ROW at first", "" + x.count(12) + Check.throwsOnRow(x, 0), "0true");
        x.towed();
        Check.is("four numbers", Check.row(x).size(), 4);
        Check.is("none such", "" + Check.throwsOnRow(x, -1) + Check.throwsOnRow(x, 4) + Check.throwsOnRow(x, 3), "truetruefalse");
        String before = Check.row(x).toString();
        x.promise(0, 3, 3);
        x.buys(1);
        x.undo();
        x.ahead(100);
        x.hours(-1);
        x.keep(0);
        x.seen(1, 1, 1);
        Check.put(x, "x").day();
        Check.put(x, "x").law();
        Check.is("told last", Check.row(x), before);
        x.owed();
        Check.is("two now", Check.row(x).size(), 2);
        x.game(3, 2);
        Check.is("none now", "" + x.count(12) + Check.throwsOnRow(x, 0), "0true");
    }

    /** KEPT and BROKEN end at 999, while hours() tells of all that is kept. */
    private static void atMost() {
        FishFerry x = Check.ferry("22....", "t1;t1;t1;t1;t1;t1;t1;t1", "");
        String all = "0000;1000;2000;3000;4000;5000;6000;7000";
        for (int i = 0; i < 125; i++) {
            Check.put(x, all).oar();
            x.hours(1);
        }
        Check.is("KEPT", x.count(5), 999);
        Check.put(x, all).oar();
        Check.tells("eight more", x, x.hours(1), "0 [8, 0, 1]");
        Check.is("KEPT stays", x.count(5), 999);
    }

    public static void main(String[] args) {
        nothingKept();
        keepAndAgain();
        whatIsNotKept();
        counts();
        rows();
        atMost();
        Check.finish();
    }
}
