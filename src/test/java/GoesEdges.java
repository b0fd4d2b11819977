/** Promises 19 to 29, sentence by sentence. */
final class GoesEdges {
    private static final String OPEN = "33.........";
    private static final String EIGHT = "t1;t1;t1;t1;t1;t1;t1;t1";

    private GoesEdges() {
    }

    static void run() {
        towed();
        ahead();
        comes();
        sticks();
        track();
        sends();
        sendsEdges();
        cheapest();
        cheapestEdges();
        matters();
        keeps();
        owed();
        fates();
    }

    /** A trout that pulls right in HOUR 99 alone of the first 200: FOG 9 in one of 20, n 1 in one of 7. */
    private static FishFerry late() {
        FishFerry x = Check.ferry("22....", "t9", "0013");
        Check.put(x, "f*(n=1)").rule();
        Check.put(x, "00000000000000000009").fog();
        return x;
    }

    private static void towed() {
        Says.of(19, "The way that BOAT goes in this HOUR (0 .. 3; -2: it STICKS)");
        FishFerry x = Check.ferry(OPEN, "t9", "0110");
        x.hours(2);
        Says.are("[0, 1, 2, 3]", towedTo(x, 1), towedTo(x, 5), towedTo(x, 7), towedTo(x, 3));
        Says.is("GOAL where BOAT is", towedTo(x, 4), -2);
        FishFerry rock = Check.ferry("22.#..", "t9", "0010");
        Says.is("a rock", rock.towed(), -2);
        FishFerry edge = Check.ferry("22....", "p9", "0010");
        Says.is("no FIELD", edge.towed(), -2);
        Says.is("no FISH", new FishFerry().towed(), -2);

        Says.of(19, "the ROW: what each way has (up, right, down, left; below 0, too).");
        FishFerry y = Check.ferry(OPEN, "t5;t3;p7", "0020;1200;2200");
        Says.tells(y, y.towed(), "1 [4, 5, -4, -5]");
        FishFerry none = new FishFerry();
        Says.tells("none", none, none.towed(), "-2 [0, 0, 0, 0]");
        Says.is("four numbers", Check.throwsOnRow(none, 4), true);
    }

    private static int towedTo(FishFerry x, int goal) {
        x.promise(0, goal, 0);
        return x.towed();
    }

    private static void ahead() {
        Says.of(20, "The FIELD where BOAT is in n HOURS (0 .. 99), if nothing else is done");
        FishFerry x = late();
        Says.are("[0, 0, 0]", x.ahead(0), x.ahead(1), x.ahead(99));
        x.hours(1);
        Says.are("[0, 1]", x.ahead(98), x.ahead(99));

        Says.of(20, "the ROW: STORE, KEPT, BROKEN then.");
        Says.tells("then", x, x.ahead(99), "1 [17, 1, 0]");
        Says.tells("now", x, x.ahead(0), "0 [20, 0, 0]");
        FishFerry y = Check.ferry("22....", "t1;t1;t1", "0009;1009;2009");
        Says.tells("broken", y, y.ahead(1), "0 [2, 2, 1]");

        Says.of(20, "NONE: another n.");
        Says.are("[-1, -1, -1, -1]", x.ahead(-1), x.ahead(100), x.ahead(Integer.MIN_VALUE), x.ahead(Integer.MAX_VALUE));
    }

    private static void comes() {
        Says.of(21, "In how many HOURS (0: now .. 99) BOAT is on a FIELD first, if nothing else is done: how many");
        FishFerry x = late();
        Says.is("now", x.comes(0), 0);
        x.hours(1);
        Says.is("99", x.comes(1), 99);
        FishFerry rock = Check.ferry("22#...", "", "");
        Says.is("now, on a rock", rock.comes(0), 0);
        // By FOG a trout and a pike tow it to and fro: 0, 1, 0, 1, ..
        FishFerry y = Check.ferry("26............", "t1;p1", "0050;1050");
        Check.put(y, "01").fog();
        Check.put(y, "(k=f)*5").rule();
        Says.are("[0, 1]", y.comes(0), y.comes(1));

        Says.of(21, "the ROW: STORE then.");
        Says.tells("when the PROMISE has been kept", x, x.comes(1), "99 [17]");
        Says.tells("now", x, x.comes(0), "0 [20]");

        Says.of(21, "-2: in none of these");
        Says.is("in 100", late().comes(1), -2);
        Says.is("never", x.comes(3), -2);
        Says.is("a rock", Check.ferry("22.#..", "t9", "0010").comes(1), -2);

        Says.of(21, "NONE: none such.");
        Says.are("[-1, -1, -1]", x.comes(-1), x.comes(4), x.comes(Integer.MAX_VALUE));
    }

    /** BOAT goes to and fro by FOG, but for HOURS in which FOG is 2 and n is 1, the first of which is 99. */
    private static FishFerry restless() {
        FishFerry x = Check.ferry("26............", "t1;p1", "0050;1050");
        Check.put(x, "01010101010101010102").fog();
        Check.put(x, "(k=f)+k*(f=2)*(1-(n=1))").rule();
        return x;
    }

    private static void sticks() {
        Says.of(22, "In which of the next HOURS (0: this one .. 99) BOAT STICKS first, if nothing else is done: it");
        FishFerry x = restless();
        Says.is("the last one", x.sticks(), 99);
        x.hours(39);
        x.hours(60);
        Says.is("this one", x.sticks(), 0);
        Says.is("this one", new FishFerry().sticks(), 0);

        Says.of(22, "the ROW: the FIELD where it STICKS.");
        FishFerry y = Check.ferry(OPEN, "t9", "0220");
        Says.tells("at its GOAL", y, y.sticks(), "4 [8]");
        FishFerry rock = Check.ferry("23..#...", "t9", "0020");
        Says.tells("ahead of a rock", rock, rock.sticks(), "1 [1]");
        FishFerry late = restless();
        Says.tells("at HOUR 99", late, late.sticks(), "99 [1]");

        Says.of(22, "-2: in none.");
        FishFerry behind = restless();
        behind.hours(60);
        behind.hours(40);
        Says.is("139 HOURS on", behind.sticks(), -2);
        behind.hours(39);
        Says.is("100 HOURS on", behind.sticks(), -2);
        behind.hours(1);
        Says.is("99 HOURS on", behind.sticks(), 99);
    }

    private static void track() {
        Says.of(23, "FIELDS (bits) on which BOAT is now or behind one of the next n HOURS (1 .. 99)");
        FishFerry x = Check.ferry(OPEN, "t9", "0220");
        Says.are("[9, 25, 153, 409, 409]", x.track(1), x.track(2), x.track(3), x.track(4), x.track(99));
        FishFerry y = late();
        y.hours(1);
        Says.are("[1, 3]", y.track(98), y.track(99));
        FishFerry big = Check.ferry("66" + ".".repeat(36), "t9", "0550");
        Check.put(big, "9").rule();
        Says.is("beyond an int's bits", big.track(10), bits(0, 6, 7, 13, 14, 20, 21, 27, 28, 34, 35));

        Says.of(23, "the ROW: how many, in how many of these HOURS it STICKS.");
        Says.tells(x, x.track(4), "409 [5, 0]");
        Says.tells(x, x.track(6), "409 [5, 2]");
        Says.tells(y, y.track(99), "3 [2, 98]");
        FishFerry none = new FishFerry();
        Says.tells("all of them", none, none.track(1), "1 [1, 1]");

        Says.of(23, "NONE: another n.");
        Says.are("[-1, -1, -1, -1]", x.track(0), x.track(100), x.track(-1), x.track(Integer.MIN_VALUE));
    }

    private static long bits(int... fields) {
        long set = 0;
        for (int field : fields) {
            set |= 1L << field;
        }
        return set;
    }

    private static void sends() {
        Says.of(24, "The fewest FISH, no eels, with TRUST, to be promised a FIELD and c (0 .. 9) crumbs now (instead of what they were promised)");
        FishFerry eel = Check.ferry(OPEN, "e9;t2", "");
        Says.tells("no eel", eel, eel.sends(1, 0, 1), "1 [2, 1]");
        FishFerry wary = Check.ferry(OPEN, "t9;t2", "0010");
        wary.takesBack(0);
        Says.tells("TRUST 2", wary, wary.sends(1, 0, 1), "1 [1, 1]");
        wary.promise(0, 1, 0);
        wary.takesBack(0);
        Says.tells("no TRUST", wary, wary.sends(1, 0, 1), "1 [2, 1]");
        FishFerry c = Check.ferry(OPEN, "t1;t1", "");
        Check.put(c, "c=9").rule();
        Says.is("c 9 and 8", c.sends(1, 9, 1) + " " + c.sends(1, 8, 1), "1 -2");
        Check.put(c, "c=0").rule();
        Says.is("c 0 and 1", c.sends(1, 0, 1) + " " + c.sends(1, 1, 1), "1 -2");
        // The trout of 9 tows left for now: it is the one to be promised another FIELD.
        FishFerry instead = Check.ferry(OPEN, "t2;t9", "1020");
        instead.hours(1);
        instead.promise(1, 0, 0);
        Says.tells("instead", instead, instead.sends(2, 0, 1), "1 [2, 1]");

        Says.of(24, ", so that BOAT is there now or behind n (1 .. 20) HOURS or fewer, if nothing else is done: how many (0: it comes so)");
        Says.tells("now", c, c.sends(0, 9, 1), "0 [0, 0]");
        FishFerry comes = Check.ferry(OPEN, "t9;t9", "0220");
        Says.tells("it comes so", comes, comes.sends(8, 5, 4), "0 [0, 4]");
        Says.tells("or fewer", comes, comes.sends(8, 5, 20), "0 [0, 4]");
        Says.tells("it comes by there", comes, comes.sends(4, 5, 20), "0 [0, 2]");
        Says.is("not in 3", comes.sends(8, 5, 3), -2);
        FishFerry fog = Check.ferry("22....", "t9", "");
        Check.put(fog, "f").rule();
        Check.put(fog, "00000000000000000009").fog();
        Says.is("behind 20, not 19", fog.sends(1, 0, 20) + " " + fog.sends(1, 0, 19), "1 -2");
    }

    private static void sendsEdges() {
        Says.of(24, "the ROW: they (bits: of as few the least), in how many HOURS it comes.");
        // A pike of 3 tows left: two of the three trout of 2 are needed.
        FishFerry x = Check.ferry(OPEN, "e9;t2;t2;p3;t2", "3020");
        Says.tells("two of three", x, x.sends(1, 0, 1), "2 [6, 1]");
        x.letsGo(1);
        Says.tells("the least of those who HOLD", x, x.sends(1, 0, 1), "2 [20, 1]");
        x.letsGo(3);
        Says.tells("one is fewer, though its bits are more", x, x.sends(1, 0, 1), "1 [4, 1]");
        FishFerry all = Check.ferry("22....", EIGHT, "0109;1109;2109;3109;4109;5109;6109;7109");
        Check.put(all, "c").rule();
        Says.tells("all eight", all, all.sends(1, 1, 1), "8 [255, 1]");

        FishFerry walls = Check.ferry("33..###....", "t9", "");
        walls.way(8, 8);
        Says.tells("whatever way was asked for ahead", walls, walls.sends(1, 0, 1), "1 [1, 1]");

        Says.of(24, "-2: by none");
        Says.is("too far", x.sends(8, 0, 3), -2);
        Says.is("a rock", Check.ferry("22.#..", "t9", "").sends(1, 0, 20), -2);
        Says.is("eels", Check.ferry("22....", "e9;e9", "").sends(1, 0, 20), -2);
        Says.is("no FISH", new FishFerry().sends(1, 0, 20), -2);

        Says.of(24, "NONE: others.");
        Says.are("[-1, -1, -1, -1, -1, -1]", x.sends(-1, 0, 1), x.sends(9, 0, 1), x.sends(0, -1, 1), x.sends(0, 10, 1), x.sends(0, 0, 0),
                x.sends(0, 0, 21));
        Says.are("[0, 0]", x.sends(0, 0, 1), x.sends(0, 9, 20));
    }

    private static void cheapest() {
        Says.of(25, "The least crumbs (promised together) by which that can be, all who are promised it having c (0 .. 9) each: how much");
        FishFerry x = Check.ferry(OPEN, "t1;t1;t1;p1", "3020");
        Says.is("for nothing", x.cheapest(1, 1), 0);
        Check.put(x, "(k=1)+(k=0)*(c>3)").rule();
        Says.tells("two of 4", x, x.cheapest(1, 1), "8 [4, 3]");
        Check.put(x, "(k=1)*8+(k=0)*(c=9)*9").rule();
        Says.tells("one of 9", x, x.cheapest(1, 1), "9 [9, 1]");
        Check.put(x, "(k=1)*8+(k=0)*(c=9)*3").rule();
        Says.tells("three of 9", x, x.cheapest(1, 1), "27 [9, 7]");
        Says.is("it comes so", Check.ferry(OPEN, "t5", "0019").cheapest(1, 1), 0);
        FishFerry crumbs = Check.ferry(OPEN, "t5", "");
        Check.put(crumbs, "c").rule();
        Says.tells("one for one crumb", crumbs, crumbs.cheapest(1, 1), "1 [1, 1]");
        Check.put(crumbs, "c>3").rule();
        Says.tells("one for four", crumbs, crumbs.cheapest(1, 1), "4 [4, 1]");

        Says.of(25, "the ROW: c, they (bits: of as much the least c, then the fewest, then the least bits).");
        Check.put(x, "(k=1)*5+(k=0)*c").rule();
        Says.tells("three of 2, two of 3, one of 6: the least c", x, x.cheapest(1, 1), "6 [2, 7]");
        Check.put(x, "(k=1)*2+(k=0)*((c>2)*9+(c=2)*2)").rule();
        Says.tells("one of 3 is less than two of 2", x, x.cheapest(1, 1), "3 [3, 1]");
        FishFerry y = Check.ferry(OPEN, "e1;t1;t1;t1;p1", "4020");
        Says.tells("two of three for nothing", y, y.cheapest(1, 1), "0 [0, 6]");
        Check.put(y, "(k=1)+(k=0)*c").rule();
        Says.tells("two of 1, one of 2: the least c, then the least bits", y, y.cheapest(1, 1), "2 [1, 6]");
        FishFerry now = Check.ferry(OPEN, "t1", "");
        Says.tells("now", now, now.cheapest(0, 1), "0 [0, 0]");
    }

    private static void cheapestEdges() {
        Says.of(25, "-2: by none");
        FishFerry x = Check.ferry(OPEN, "t9;t9", "");
        Says.are("[-2, 0]", x.cheapest(8, 3), x.cheapest(8, 4));
        Says.is("no PULL for any crumbs", noPull().cheapest(1, 20), -2);
        Says.is("a rock", Check.ferry("22.#..", "t9", "").cheapest(1, 20), -2);
        Says.is("no FISH", new FishFerry().cheapest(1, 20), -2);
        FishFerry fog = Check.ferry("22....", "t9", "");
        Check.put(fog, "f*(c=9)").rule();
        Check.put(fog, "00000000000000000009").fog();
        Says.is("behind 20, not 19", fog.cheapest(1, 20) + " " + fog.cheapest(1, 19), "9 -2");

        Says.of(25, "NONE: others.");
        Says.are("[-1, -1, -1, -1]", x.cheapest(-1, 1), x.cheapest(9, 1), x.cheapest(0, 0), x.cheapest(0, 21));
        Says.are("[0, 0]", x.cheapest(0, 1), x.cheapest(0, 20));
    }

    private static FishFerry noPull() {
        FishFerry x = Check.ferry(OPEN, "t9", "");
        Check.put(x, "c-9").rule();
        return x;
    }

    private static void matters() {
        Says.of(26, "The FISH HOLDING with a PROMISE without which (had it let go now) BOAT would be in n (1 .. 60) HOURS "
                + "the farthest from where it is in n HOURS as all is: of equal ones the first: it");
        FishFerry x = Check.ferry(OPEN, "t4;t9;t1", "0200;1020;2100");
        Says.tells("without 1 it is down two, not right two", x, x.matters(2), "1 [4]");
        x.letsGo(1);
        Says.tells("HOLDING alone", x, x.matters(2), "0 [1]");
        FishFerry like = Check.ferry(OPEN, "e1;t5;t5", "1020;2020");
        Says.tells("of equal ones the first, with a PROMISE", like, like.matters(1), "1 [0]");
        FishFerry far = late();
        far.hours(60);
        Says.tells("60 HOURS", far, far.matters(60), "0 [1]");
        Says.tells("39 are too few", far, far.matters(39), "0 [0]");
        Says.tells("40 HOURS", far, far.matters(40), "0 [1]");

        Says.of(26, "the ROW: how far (ROWS and COLUMNS added).");
        FishFerry down = Check.ferry(OPEN, "t9", "0220");
        Says.tells("2 and 2", down, down.matters(4), "0 [4]");
        Says.tells("2 and 1", down, down.matters(3), "0 [3]");

        Says.of(26, "-2: there is none such");
        Says.is("no FISH", new FishFerry().matters(1), -2);
        Says.is("no PROMISE", Check.ferry(OPEN, "t9", "").matters(60), -2);
        down.letsGo(0);
        Says.is("none HOLDING", down.matters(1), -2);

        Says.of(26, "NONE: another n.");
        Says.are("[-1, -1, -1, -1]", x.matters(0), x.matters(61), x.matters(-1), new FishFerry().matters(61));
    }

    private static void keeps() {
        Says.of(27, "The most PROMISES that could be kept out of STORE, whenever: how many");
        FishFerry x = Check.ferry("22....", EIGHT, "");
        Says.is("none", x.keeps(), 0);
        Check.put(x, "0119;1119;2113").oar();
        Says.is("20 are not enough for 21", x.keeps(), 2);
        x.buys(1);
        Says.is("21 are", x.keeps(), 3);
        x.letsGo(0);
        Says.is("whenever: of one that let go, too", x.keeps(), 3);
        Check.put(x, "0110;1110;2110;3110;4110;5110;6110;7110").oar();
        Says.is("all eight for nothing", x.keeps(), 8);

        Says.of(27, "the ROW: FISH (bits: of as many those with the fewest CRUMBS together, then the least bits), what is left of STORE.");
        FishFerry y = Check.ferry("22....", "t1;t1;t1;t1;t1", "");
        Says.tells("none", y, y.keeps(), "0 [0, 20]");
        FishFerry first = Check.ferry("22....", "t1;t1", "0114");
        Says.tells("the first alone", first, first.keeps(), "1 [1, 16]");
        Check.put(y, "0119;1117;2117;3117").oar();
        Says.tells("7 and 7, the least bits", y, y.keeps(), "2 [6, 6]");
        Check.put(y, "1116").oar();
        Says.tells("three, 20 of 20", y, y.keeps(), "3 [14, 0]");
        Check.put(y, "4111").oar();
        Says.tells("the fewest crumbs with more bits", y, y.keeps(), "3 [22, 6]");
        FishFerry empty = Check.ferry("", "t1;t1;t1", "0009;1009;2002");
        empty.hours(1);
        Check.put(empty, "0111;1110").oar();
        Says.tells("out of nothing", empty, empty.keeps(), "1 [2, 0]");
    }

    private static void owed() {
        Says.of(28, "All CRUMBS that are promised together: how many");
        FishFerry x = Check.ferry("22....", EIGHT, "");
        Says.is("none", x.owed(), 0);
        Check.put(x, "0119;1119;7112").oar();
        Says.is(x.owed(), 20);

        Says.of(28, "the ROW: how many are lacking in STORE (0 at least), FISH with a PROMISE (bits).");
        Says.tells("20 of 20", x, x.owed(), "20 [0, 131]");
        x.promise(7, 3, 3);
        Says.tells("21 of 20", x, x.owed(), "21 [1, 131]");
        x.buys(5);
        Says.tells("21 of 25", x, x.owed(), "21 [0, 131]");
        Check.put(x, "0119;1119;2119;3119;4119;5119;6119;7119").oar();
        Says.tells("72 of 25", x, x.owed(), "72 [47, 255]");
        x.takesBack(0);
        x.promise(1, 3, 0);
        Says.tells("a PROMISE without crumbs", x, x.owed(), "54 [29, 254]");
        FishFerry none = new FishFerry();
        Says.tells("none", none, none.owed(), "0 [0, 0]");
    }

    private static void fates() {
        Says.of(29, "FISH (bits) whose PROMISE is kept in the next n (1 .. 99) HOURS, if nothing else is done");
        FishFerry x = late();
        x.hours(1);
        Says.are("[0, 0, 1]", x.fates(1), x.fates(98), x.fates(99));
        FishFerry y = Check.ferry(OPEN, "t9;t1;t1;t9;t1", "0109;1109;2109;3202;4020");
        Says.is("of 9, 9 and 9 two", y.fates(1), 3);

        Says.of(29, "the ROW: those whose PROMISE is broken (bits), those who have it yet (bits).");
        Says.tells("in one HOUR", y, y.fates(1), "3 [4, 24]");
        Says.tells("in two", y, y.fates(2), "11 [4, 16]");
        y.hours(1);
        Says.tells("what was broken ahead is not told", y, y.fates(1), "8 [0, 16]");
        Says.tells("98 HOURS", x, x.fates(98), "0 [0, 1]");
        Says.tells("99 HOURS", x, x.fates(99), "1 [0, 0]");
        FishFerry none = new FishFerry();
        Says.tells("no FISH", none, none.fates(99), "0 [0, 0]");

        Says.of(29, "NONE: another n.");
        Says.are("[-1, -1, -1]", x.fates(0), x.fates(100), x.fates(-1));
    }
}
