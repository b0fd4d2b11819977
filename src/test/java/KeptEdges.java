/** Promises 45 to 48, sentence by sentence. */
final class KeptEdges {
    private KeptEdges() {
    }

    static void run() {
        keeps();
        agains();
        counts();
        rows();
    }

    /** What undo() brings back. */
    private static String held(FishFerry x) {
        return Check.counts(x, 3, 4, 5, 6, 7, 9) + "|" + Check.each(x, 2) + "|" + Check.each(x, 3) + "|" + Check.each(x, 5) + "|"
                + Check.each(x, 6);
    }

    private static void keeps() {
        Says.of(45, "What undo() brings back is kept under a number 0 .. 2: true.");
        FishFerry x = TermsEdges.rich();
        String[] were = new String[3];
        for (int i = 0; i < 3; i++) {
            were[i] = held(x);
            Says.is("under " + i, x.keep(i), true);
            x.hours(1);
            x.letsGo(i);
            x.buys(1);
            x.takesBack(0);
            x.promise(0, i, i);
        }
        for (int i = 2; i >= 0; i--) {
            Says.is("under " + i, x.again(i) + " " + held(x), "true " + were[i]);
        }
        x.buys(1);
        Says.is("under 1 anew", x.keep(1) && x.again(0) && x.again(1), true);
        Says.is(held(x).equals(were[1]) + " " + held(x).equals(were[0]), "false false");

        Says.of(45, "Refused: others.");
        Says.is("" + x.keep(-1) + x.keep(3) + x.keep(Integer.MIN_VALUE) + x.keep(Integer.MAX_VALUE), "falsefalsefalsefalse");
    }

    private static void agains() {
        Says.of(46, "It is as it was kept under a number.");
        FishFerry x = Check.ferry("33.........", "t9;s5;e1", "0229;1111");
        x.keep(2);
        String were = held(x);
        Check.put(x, "n2l2t0b7p0000n2").day();
        Check.is("all is otherwise", held(x).equals(were), false);
        Says.is(x.again(2) + " " + held(x), "true " + were);
        x.hours(5);
        Says.is("once more", x.again(2) + " " + held(x), "true " + were);
        x.buys(1);
        x.undo();
        Says.is("undoing leaves it", x.again(2) + " " + held(x), "true " + were);

        Says.of(46, "Refused: nothing kept, THE LAKE or FISH came since.");
        FishFerry first = new FishFerry();
        Says.is("nothing kept at first", "" + first.again(0) + first.again(1) + first.again(2), "falsefalsefalse");
        Says.is("nothing kept", "" + x.again(0) + x.again(1) + x.again(-1) + x.again(3), "falsefalsefalsefalse");
        Check.put(x, "t0").fish();
        Check.put(x, "").fish();
        Check.put(x, "33").lake();
        Says.is("none came by refused texts or an empty one", x.again(2), true);
        Check.put(x, "t1").fish();
        Says.is("FISH came", x.again(2), false);
        x.keep(2);
        Says.is("kept since", x.again(2), true);
        Check.put(x, "33.........").lake();
        Says.is("THE LAKE came", x.again(2), false);
        x.keep(2);
        Says.is("kept since", x.again(2), true);
    }

    private static void counts() {
        Says.of(47, "What 0: ROWS, 1: COLUMNS, 2: FISH, 3: the FIELD where BOAT is, 4: STORE, 5: KEPT, 6: BROKEN, 7: HOUR, 8: FOG of this HOUR, "
                + "9: FISH HOLDING (bits), 10: what was seen, 11: what can be undone, 12: numbers of the ROW, 13: signs of THE TEXT.");
        FishFerry x = new FishFerry();
        Says.is("at first", Check.counts(x, 0, 1, 2, 3, 4, 5, 6, 7, 8, 9, 10, 11, 12, 13), "2 2 0 0 20 0 0 0 0 0 0 0 0 0");
        Check.put(x, "35...............").lake();
        Check.put(x, "t9;t1;t1;t1;t1").fish();
        Check.put(x, "0109;1109;2103;4020").oar();
        Check.put(x, "678").fog();
        x.letsGo(3);
        x.hours(1);
        x.hours(60);
        x.seen(1, 1, 1);
        x.seen(2, 2, 0);
        Check.put(x, "abc");
        Says.is("later", Check.counts(x, 0, 1, 2, 4, 5, 6, 7, 8, 9, 10, 11, 12, 13), "3 5 5 2 3 1 61 7 23 2 4 3 3");
        Says.is("BOAT", x.field(x.count(3), 1), 1);

        Says.of(47, "-100 for another what.");
        Says.are("[-100, -100, -100, -100]", x.count(-1), x.count(14), x.count(Integer.MIN_VALUE), x.count(Integer.MAX_VALUE));
    }

    private static void rows() {
        Says.of(48, "Number i of the ROW.");
        FishFerry x = Check.ferry("33.........", "t5;t3", "0020;1200");
        x.towed();
        Says.are("[-3, 5, 3, -5]", x.row(0), x.row(1), x.row(2), x.row(3));
        FishFerry far = Check.ferry("66." + "#".repeat(34) + ".", "", "");
        far.farthest();
        Says.is("beyond an int", far.row(1), 1L << 35);

        Says.of(48, "NoSuchElementException: none such.");
        Says.is("of four", "" + Check.throwsOnRow(x, -1) + Check.throwsOnRow(x, 4) + Check.throwsOnRow(x, Integer.MAX_VALUE)
                + Check.throwsOnRow(x, Integer.MIN_VALUE), "truetruetruetrue");
        x.comes(0);
        Says.is("of one now", "" + Check.throwsOnRow(x, 0) + Check.throwsOnRow(x, 1), "falsetrue");
        Says.is("none at first", Check.throwsOnRow(new FishFerry(), 0), true);
        x.game(3, 2);
        Says.is("an empty one", Check.throwsOnRow(x, 0), true);
    }
}
