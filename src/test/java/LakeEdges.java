/** Promises 1 to 11, sentence by sentence. */
final class LakeEdges {
    private static final String EIGHT = "t1;p2;e3;s4;t5;p6;e7;s8";
    private static final String TWELVE = "0000" + ";0000".repeat(11);

    private LakeEdges() {
    }

    static void run() {
        aNewObject();
        signs();
        lakes();
        lakeFaults();
        fish();
        oars();
        oarFaults();
        fogs();
        rules();
        ones();
        fields();
        sheets();
        sheetEdges();
    }

    private static void aNewObject() {
        Says.of(1, "A LAKE of two ROWS and COLUMNS; no FISH.");
        Says.is(Check.counts(new FishFerry(), 0, 1, 2, 9), "2 2 0 0");
        Says.is("no fourth FIELD, no first FISH", Check.throwsOnField(new FishFerry(), 4, 0) && Check.throwsOnOne(new FishFerry(), 0, 0),
                true);
    }

    private static void signs() {
        Says.of(2, "Four signs come behind THE TEXT, of v the highest byte first: how many it has.");
        FishFerry x = new FishFerry();
        Says.are("[4, 8]", x.sign('t' << 24 | '5' << 16 | ';' << 8 | 'p'), x.sign('6' << 24));
        x.end(5);
        Says.is("behind what is there, and in turn", x.fish() + " " + Check.each(x, 1), "2 5 6");
        x.sign('t' << 24);
        x.end(1);
        Says.is("behind a text that was cut", x.sign('7' << 24), 5);
        x.end(2);
        Says.is(x.fish() + " " + x.one(2, 1), "1 7");
        x.sign(-1);
        Says.is("the highest bit is a sign's, too", x.fog(), -1);

        Says.of(2, "Refused: there would be more than 80.");
        for (int length = 77; length <= 80; length++) {
            Check.put(x, "1".repeat(length));
            Says.is("at " + length, x.sign(0) + " " + x.count(13), "-1 " + length);
        }
        Check.put(x, "1".repeat(76));
        Says.are("[80, -1]", x.sign(0x31313131), x.sign(0));

        Says.of(3, "THE TEXT has its first n signs alone: true");
        Says.is("all of them", x.end(80) + " " + x.count(13), "true 80");
        Says.is("its first ones", x.end(3) + " " + x.count(13) + " " + x.fog() + " " + x.count(8), "true 3 3 1");
        Says.is("none of none", x.end(0) + " " + x.count(13), "true 0");

        Says.of(3, "false if it has not so many, or n is below 0.");
        Check.put(x, "123");
        Says.is("" + x.end(4) + x.end(81) + x.end(Integer.MAX_VALUE) + x.end(-1) + x.end(Integer.MIN_VALUE), "falsefalsefalsefalsefalse");
        Says.is("the text stays", x.count(13) + " " + x.fog(), "3 3");
    }

    private static void lakes() {
        Says.of(4, "THE TEXT is THE LAKE anew: how many FIELDS");
        FishFerry x = TermsEdges.rich();
        x.letsGo(0);
        x.hours(1);
        x.keep(0);
        x.keep(2);
        String stays = Check.counts(x, 4, 5, 6);
        Says.is("with much to forget", x.count(3) > 0 && x.count(7) == 4 && x.count(5) > 0 && x.count(6) > 0, true);
        Says.is("the largest", Check.put(new FishFerry(), "66" + "#".repeat(36)).lake(), 36);
        Says.is("anew", Check.put(x, "32#..#..").lake() + " " + Check.counts(x, 0, 1), "6 3 2");
        Says.is("its rocks alone", "" + x.field(0, 0) + x.field(1, 0) + x.field(2, 0) + x.field(3, 0) + x.field(4, 0) + x.field(5, 0),
                "100100");

        Says.of(4, "BOAT is on FIELD 0 (a rock there, too)");
        Says.is(x.count(3) + " " + x.field(0, 1) + x.field(0, 0), "0 11");
        Says.of(4, "HOUR is 0");
        Says.is(x.count(7), 0);
        Says.of(4, "there are no FISH");
        Says.is(x.count(2) + " " + x.count(9) + " " + Check.throwsOnOne(x, 0, 0), "0 0 true");
        Says.of(4, "nothing can be undone");
        Says.is(x.count(11) + " " + x.undo(), "0 -1");
        Says.of(4, "nothing is kept");
        Says.is("" + x.again(0) + x.again(1) + x.again(2), "falsefalsefalse");
        Says.of(4, "nothing was seen");
        Says.is(x.count(10) + " " + x.forget(), "0 0");
        Says.of(4, "STORE, KEPT, BROKEN stay.");
        Says.is(Check.counts(x, 4, 5, 6), stays);
        Check.put(x, EIGHT).fish();
        Says.is("new FISH are as FISH are at first", Check.each(x, 2) + Check.each(x, 3) + Check.each(x, 5),
                "0 0 0 0 0 0 0 05 5 5 5 5 5 5 5-1 -1 -1 -1 -1 -1 -1 -1");
    }

    private static int lake(String text) {
        FishFerry x = Check.ferry("", "t1", "");
        int answer = Check.put(x, text).lake();
        Check.is("a lake refused changes nothing: " + text, answer >= 0 || Check.counts(x, 0, 1, 2, 13).equals("2 2 1 0"), true);
        return answer;
    }

    private static void lakeFaults() {
        Says.of(4, "-1 - p: the sign at p can't stand there (its end, if it ends too early; one too many: at it).");
        Says.are("[-1, -2, -3, -4, -6]", lake(""), lake("2"), lake("22"), lake("22."), lake("22..."));
        Says.are("[-7, -7, -39]", lake("22....."), lake("22....?."), lake("66" + ".".repeat(37)));
        Says.are("[-1, -1, -1, -1]", lake("12.."), lake("72"), lake(".2...."), lake("a"));
        Says.are("[-2, -2, -2, -2]", lake("21.."), lake("27"), lake("2....."), lake("2#...."));
        Says.are("[-3, -6, -38, -3]", lake("222..."), lake("22...o"), lake("66" + ".".repeat(35) + "x"), lake("22\u0000..."));
    }

    private static int fishOf(FishFerry x, String text) {
        int before = x.count(2);
        int answer = Check.put(x, text).fish();
        Check.is("none of " + text + " comes if it can't", answer >= 0 || x.count(2) == before, true);
        return answer;
    }

    private static int fishOf(String text) {
        return fishOf(new FishFerry(), text);
    }

    private static void fish() {
        Says.of(5, "THE TEXT tells of FISH (an empty one: nothing): how many LINES.");
        FishFerry x = new FishFerry();
        Says.are("[0, 1, 2, 0, 5]", fishOf(x, ""), fishOf(x, "t1"), fishOf(x, "s2;e3"), fishOf(x, ""), fishOf(x, "t4;t5;t6;t7;t8"));
        Says.is("behind those that are there", Check.each(x, 1), "1 2 3 4 5 6 7 8");
        Says.is("nothing, if there is no room, too", fishOf(x, ""), 0);

        Says.of(5, "-1 - p: the sign at p can't stand there (its end, if it ends too early");
        Says.are("[-2, -4, -5, -23]", fishOf("t"), fishOf("t1;"), fishOf("t1;p"), fishOf(EIGHT.substring(0, 22)));
        Says.are("[-1, -1, -1, -2, -2]", fishOf("x1"), fishOf("1t"), fishOf(";"), fishOf("t0"), fishOf("tt"));
        Says.are("[-3, -3, -3, -4, -5]", fishOf("t1,"), fishOf("t10"), fishOf("t1t1"), fishOf("t1;;"), fishOf("t1;p0"));

        Says.of(5, "the first sign of a LINE for which there is no room");
        Says.are("[-1, -1, -1]", fishOf(x, "t1"), fishOf(x, "t1;t1"), fishOf(x, "x"));
        FishFerry six = Check.ferry("", "t1;t1;t1;t1;t1;t1", "");
        Says.are("[-7, -7, -7, -5, 2]", fishOf(six, "t1;t1;t1"), fishOf(six, "t1;t1;x"), fishOf(six, "t1;t1;"), fishOf(six, "t1;t0;t1"),
                fishOf(six, "t1;t1"));

        Says.of(5, "23, if it has more and the first 23 could go on or end).");
        Says.are("[8, -24, -24, -24, -24]", fishOf(EIGHT), fishOf(EIGHT + ";"), fishOf(EIGHT + ";t9"), fishOf(EIGHT + "x"),
                fishOf(EIGHT + EIGHT));
        Says.are("[-23, -22, -3]", fishOf(EIGHT.substring(0, 22) + "0;t1"), fishOf(EIGHT.substring(0, 21) + "x1;t1"),
                fishOf("t1" + EIGHT + EIGHT));

        Says.of(5, "Nothing of it comes, if a LINE can't.");
        FishFerry y = Check.ferry("", "t9", "");
        Says.is(fishOf(y, "p1;s2;t0") + " " + Check.counts(y, 2, 9, 13), "-8 1 1 0");
    }

    private static FishFerry oarsmen() {
        return Check.ferry("23......", "t5;e5;s5", "");
    }

    private static int oar(String text) {
        FishFerry x = oarsmen();
        int answer = Check.put(x, text).oar();
        Check.is("no PROMISE of " + text + " comes if a LINE can't", answer > 0 || Check.each(x, 5).equals("-1 -1 -1"), true);
        Check.is("undone can be what was done", x.count(11), answer > 0 ? 1 : 0);
        Check.is("the text is gone", x.count(13), 0);
        return answer;
    }

    private static void oars() {
        Says.of(6, "THE TEXT is THE OAR (an empty one: nothing): LINES with ; between (at most 12)");
        Says.are("[0, 1, 2, 12]", oar(""), oar("0000"), oar("0000;2000"), oar(TWELVE));

        Says.of(6, "each a digit (a FISH that is there, no eel, TRUST above 0)");
        Says.are("[-1, -1, -1, -6]", oar("1000"), oar("3000"), oar("9000"), oar("0000;1000"));
        FishFerry wary = Check.ferry("", "t5", "");
        for (int i = 0; i < 2; i++) {
            wary.promise(0, 0, 0);
            wary.takesBack(0);
        }
        Says.is("TRUST 0", Check.put(wary, "0000").oar(), -1);
        FishFerry trusting = Check.ferry("", "t5", "0000");
        trusting.takesBack(0);
        trusting.promise(0, 0, 0);
        trusting.hours(1);
        trusting.promise(0, 0, 0);
        trusting.hours(1);
        trusting.promise(0, 0, 0);
        Says.is("TRUST 1", trusting.takesBack(0) + " " + Check.put(trusting, "0000").oar(), "1 1");
        FishFerry gone = Check.ferry("", "t5", "");
        gone.letsGo(0);
        Says.is("one that does not HOLD", Check.put(gone, "0119").oar() + " " + Check.ones(gone, 0, 4, 5, 6), "1 0 3 9");

        Says.of(6, "two digits (ROW, COLUMN: a FIELD), a digit (CRUMBS)");
        FishFerry x = oarsmen();
        Says.is(Check.put(x, "0129;2100").oar() + " " + Check.each(x, 5) + " " + Check.each(x, 6), "2 5 -1 3 9 -1 0");
        FishFerry rock = Check.ferry("22...#", "t5", "");
        Says.is("a rock is a FIELD", Check.put(rock, "0114").oar() + " " + rock.one(0, 5), "1 3");

        Says.of(6, "they are PROMISES, the later ones instead of earlier ones: how many LINES.");
        Says.is(Check.put(x, "0001;0012;0023").oar() + " " + Check.ones(x, 0, 5, 6), "3 2 3");
        Says.is("the others keep theirs", Check.ones(x, 2, 5, 6), "3 0");
    }

    private static void oarFaults() {
        Says.of(6, "-1 - p: the sign at p can't stand there (its end, if it ends too early");
        Says.are("[-2, -3, -4, -6, -7]", oar("0"), oar("00"), oar("000"), oar("0000;"), oar("0000;0"));
        Says.are("[-1, -2, -3, -4, -5, -5, -6]", oar("x000"), oar("0x00"), oar("00x0"), oar("000x"), oar("0000x"), oar("00000"),
                oar("0000;;"));
        Says.are("[-60, -61, -60]", oar(TWELVE + "0"), oar(TWELVE + ";"), oar(TWELVE + "x"));

        Says.of(6, "a FISH, ROW or COLUMN that can't be: at its digit");
        Says.are("[-1, -2, -3]", oar("3000"), oar("0200"), oar("0030"));
        Says.are("[-6, -7, -8]", oar("0000;1000"), oar("0000;0200"), oar("0000;0030"));
        Says.are("[-1, -2]", oar("3939"), oar("0990"));
        Says.is("no FISH at all", Check.put(new FishFerry(), "0000").oar(), -1);

        Says.of(6, "the first sign of a thirteenth LINE).");
        Says.are("[-61, -61]", oar(TWELVE + ";0000"), oar(TWELVE + ";x"));

        Says.of(6, "Nothing of it comes, if a LINE can't.");
        FishFerry x = oarsmen();
        Says.is(Check.put(x, "0001;2110;1000").oar() + " " + Check.each(x, 5) + " " + x.count(11), "-11 -1 -1 -1 0");
    }

    private static int fog(String text) {
        FishFerry x = new FishFerry();
        Check.put(x, "8").fog();
        int answer = Check.put(x, text).fog();
        Check.is("FOG stays if it can't be " + text, answer > 0 || x.count(8) == 8, true);
        return answer;
    }

    private static void fogs() {
        Says.of(7, "THE TEXT is FOG: how many signs.");
        FishFerry x = new FishFerry();
        Says.is(Check.put(x, "70").fog() + " " + Check.counts(x, 8, 13), "2 7 0");
        x.hours(1);
        Says.is(x.count(8), 0);
        x.hours(1);
        Says.is(x.count(8), 7);
        Says.is("a shorter one", Check.put(x, "5").fog() + " " + x.count(8), "1 5");
        Says.are("[20]", fog("12345678901234567890"));

        Says.of(7, "-1 - p: the sign at p can't stand there (its end for none");
        Says.are("[-1, -1, -2, -20, -3]", fog(""), fog("x"), fog("1-"), fog("1".repeat(19) + "x"), fog("12 "));
        Says.of(7, "a twenty-first sign: at it).");
        Says.are("[-21, -21, -21, -20]", fog("1".repeat(21)), fog("1".repeat(20) + "x"), fog("1".repeat(80)), fog("1".repeat(19) + "x1"));
    }

    private static int rule(String text) {
        FishFerry x = Check.ferry("22....", "t5", "0010");
        Check.put(x, "7").rule();
        int answer = Check.put(x, text).rule();
        Check.is("THE RULE stays if it can't be " + text, answer == 0 || x.one(0, 7) == 7, true);
        Check.is("the text is gone", x.count(13), 0);
        return answer;
    }

    private static void rules() {
        Says.of(8, "THE TEXT is THE RULE (an empty one: none): 0.");
        FishFerry x = Check.ferry("22....", "t5", "0010");
        Says.is(Check.put(x, "s+3").rule() + " " + x.one(0, 7), "0 8");
        Says.is("another one", Check.put(x, "s-3").rule() + " " + x.one(0, 7), "0 2");
        Says.is("none", Check.put(x, "").rule() + " " + x.one(0, 7), "0 5");
        x.promise(0, 1, 6);
        Says.is("more crumbs than TRUST by s-d+(c>u)", x.one(0, 7), 6);

        rulesInTurn();

        Says.of(8, "-1 - p: the sign at p can't stand there (its end, if it ends too early");
        Says.are("[-2, -3, -3, -2, -4, -5]", rule("-"), rule("s+"), rule("(s"), rule("("), rule("s*("), rule("(s+("));
        Says.are("[-1, -2, -3, -4, -5]", rule("q"), rule("s)"), rule("s+)"), rule("100s"), rule("((((("));
        Says.is("forty that end too early", rule("s+".repeat(20)), -41);
        Says.is("forty that end too early", rule("(" + "s+".repeat(19) + "s"), -41);

        Says.of(8, "40, if it has more and the first 40 could go on or end).");
        String forty = "s+".repeat(19) + "10";
        Says.are("[0, -41, -41, -41]", rule(forty), rule(forty + "0"), rule(forty + "x"), rule(forty + "+s"));
        Says.are("[-41, -41, -41]", rule("s+".repeat(20) + "s"), rule("s+".repeat(20) + ")"), rule("-".repeat(80)));
        Says.are("[-39, -39, -1]", rule("s+".repeat(19) + ")0"), rule("s+".repeat(19) + "+ss"), rule("x".repeat(80)));
    }

    /** One text leaves nothing behind in the next, refused or not. */
    private static void rulesInTurn() {
        FishFerry x = Check.ferry("22....", "t5", "0010");
        String[] texts = {"1<2", "1<2", "1=1", "(1<2", "3>2", "-", "7", "((((", "(((6)))", "9*", "4", "12", "3", "8-", "5+3<9", "1<2<3", "2"};
        int[] pulls = {1, 1, 1, 1, 1, 1, 7, 7, 6, 6, 4, 9, 3, 3, 1, 1, 2};
        for (int i = 0; i < texts.length; i++) {
            Check.put(x, texts[i]).rule();
            Says.is(texts[i] + " behind others", x.one(0, 7), pulls[i]);
        }
    }

    private static void ones() {
        Says.of(9, "Of a FISH, what 0: KIND, 1: STRENGTH, 2: TIRED, 3: TRUST, 4: 1 if HOLDING, 5: GOAL (NONE), "
                + "6: CRUMBS (NONE without a PROMISE), 7: PULL now");
        FishFerry x = Check.ferry("33.........", "p7;s4", "1224");
        Says.is(Check.ones(x, 0, 0, 1, 2, 3, 4, 5, 6, 7), "1 7 0 5 1 -1 -1 0");
        Says.is(Check.ones(x, 1, 0, 1, 2, 3, 4, 5, 6, 7), "3 4 0 5 1 8 4 4");
        x.hours(1);
        x.letsGo(1);
        Says.is("one that let go", Check.ones(x, 1, 0, 1, 2, 3, 4, 5, 6, 7), "3 4 1 5 0 8 4 0");
        x.promise(0, 0, 0);
        Says.is("a PROMISE of FIELD 0 and no crumbs", Check.ones(x, 0, 5, 6), "0 0");

        Says.of(9, "8: the way it pulls now (NONE with PULL 0; 4: a shoal that pulls both ways).");
        FishFerry y = Check.ferry("33.........", "t9;p9;s9;s9;s9;t9", "0220;1220;2220;3010;4000");
        Says.is(Check.each(y, 8), "2 0 4 1 -1 -1");
        y.letsGo(2);
        Says.is("let go", y.one(2, 8), -1);
        Check.put(y, "0").rule();
        Says.is("PULL 0", Check.each(y, 8), "-1 -1 -1 -1 -1 -1");

        Says.of(9, "NoSuchElementException: none such, another what.");
        for (int what = 0; what < 9; what++) {
            Says.is("none such", "" + Check.throwsOnOne(x, -1, what) + Check.throwsOnOne(x, 1, what) + Check.throwsOnOne(x, 2, what)
                    + Check.throwsOnOne(x, 8, what) + Check.throwsOnOne(new FishFerry(), 0, what), "truefalsetruetruetrue");
        }
        Says.is("another what", "" + Check.throwsOnOne(x, 0, -1) + Check.throwsOnOne(x, 0, 9) + Check.throwsOnOne(x, 0, Integer.MIN_VALUE)
                + Check.throwsOnOne(x, Integer.MAX_VALUE, 0), "truetruetruetrue");
    }

    private static void fields() {
        Says.of(10, "Of a FIELD, what 0: 1 if it is a rock, 1: 1 if BOAT is there, 2: FISH whose GOAL it is (bits).");
        FishFerry x = Check.ferry("22.#..", EIGHT, "0110;3010;4110;7110");
        Says.is("rocks", "" + x.field(0, 0) + x.field(1, 0) + x.field(2, 0) + x.field(3, 0), "0100");
        Says.is("BOAT", "" + x.field(0, 1) + x.field(1, 1) + x.field(2, 1) + x.field(3, 1), "1000");
        Says.is("GOALS", x.field(0, 2) + " " + x.field(1, 2) + " " + x.field(2, 2) + " " + x.field(3, 2), "0 8 0 145");

        Says.of(10, "NoSuchElementException: likewise.");
        for (int what = 0; what < 3; what++) {
            Says.is("none such", "" + Check.throwsOnField(x, -1, what) + Check.throwsOnField(x, 3, what) + Check.throwsOnField(x, 4, what)
                    + Check.throwsOnField(x, 36, what) + Check.throwsOnField(x, Integer.MIN_VALUE, what), "truefalsetruetruetrue");
        }
        Says.is("another what", "" + Check.throwsOnField(x, 0, -1) + Check.throwsOnField(x, 0, 3), "truetrue");
    }

    /** What a sheet answers, and all STRENGTHS of four FISH then. */
    private static String sheet(int kind, int n, int f, int step) {
        FishFerry x = Check.ferry("", "t6;p6;e6;s6", "");
        return x.sheet(kind, n, f, step) + ": " + Check.each(x, 1);
    }

    private static void sheets() {
        Says.of(11, "STRENGTH of FISH 0, 1, .., as a sheet tells it: bytes (kind 0), shorts (1), ints (2) of n entries f, f + step, ..");
        for (int kind = 0; kind < 3; kind++) {
            Says.is(sheet(kind, 4, 2, 2), "20: 2 4 6 8");
            Says.is(sheet(kind, 4, 9, -3), "19: 9 6 3 1");
            Says.is("more entries than FISH", sheet(kind, 8, 1, 1), "10: 1 2 3 4");
            Says.is("one entry", sheet(kind, 1, 7, 1), "10: 7 1 1 1");
        }
        Says.of(11, "(of bytes, shorts the lowest bits, with their sign; put to 1 .. 9)");
        Says.is("bytes", sheet(0, 4, 127, 1), "12: 9 1 1 1");
        Says.is("bytes", sheet(0, 4, 255, 1), "5: 1 1 1 2");
        Says.is("bytes", sheet(0, 4, 256 + 3, 256), "12: 3 3 3 3");
        Says.is("bytes", sheet(0, 4, -256 * 7 + 5, 1), "26: 5 6 7 8");
        Says.is("shorts", sheet(1, 4, 32767, 1), "12: 9 1 1 1");
        Says.is("shorts", sheet(1, 4, 65535, 1), "5: 1 1 1 2");
        Says.is("shorts", sheet(1, 4, 65536 + 3, 65536), "12: 3 3 3 3");
        Says.is("shorts", sheet(1, 4, 255, 1), "36: 9 9 9 9");
        Says.is("ints", sheet(2, 4, 65535, 1), "36: 9 9 9 9");
        Says.is("ints beyond the greatest", sheet(2, 4, Integer.MAX_VALUE, 1), "12: 9 1 1 1");
        Says.is("ints beyond the least", sheet(2, 4, Integer.MIN_VALUE, -1), "28: 1 9 9 9");
        Says.is("0 is put to 1, 10 to 9", sheet(2, 4, 0, 10), "28: 1 9 9 9");
    }

    private static void sheetEdges() {
        Says.of(11, "or a missing one (3): those behind it have 1: the sum of all.");
        Says.is("behind two", sheet(0, 2, 5, 1), "13: 5 6 1 1");
        Says.is("behind none", sheet(1, 0, 5, 1), "4: 1 1 1 1");
        Says.is("behind none", sheet(2, 0, 5, 1), "4: 1 1 1 1");
        Says.is("no FISH", "" + new FishFerry().sheet(0, 8, 9, 0), "0");

        Says.of(11, "-2: n below 0 (of kinds 0 .. 2; nothing changes)");
        Says.is(sheet(0, -1, 5, 1), "-2: 6 6 6 6");
        Says.is(sheet(1, -1, 5, 1), "-2: 6 6 6 6");
        Says.is(sheet(2, Integer.MIN_VALUE, 5, 1), "-2: 6 6 6 6");

        Says.of(11, "-3: missing (all 1).");
        Says.is(sheet(3, 4, 5, 1), "-3: 1 1 1 1");
        Says.is("n below 0", sheet(3, -1, 5, 1), "-3: 1 1 1 1");
        Says.is("8", sheet(3, 8, 5, 1), "-3: 1 1 1 1");

        Says.of(11, "NONE: another kind, n above 8 (these first).");
        Says.is(sheet(-1, 4, 5, 1), "-1: 6 6 6 6");
        Says.is(sheet(4, 4, 5, 1), "-1: 6 6 6 6");
        Says.is("another kind, n below 0", sheet(4, -1, 5, 1), "-1: 6 6 6 6");
        Says.is("another kind, n below 0", sheet(-1, -1, 5, 1), "-1: 6 6 6 6");
        for (int kind = 0; kind < 4; kind++) {
            Says.is("above 8, a missing one, too", sheet(kind, 9, 5, 1), "-1: 6 6 6 6");
        }
        Says.is("8 is not above 8", sheet(2, 8, 5, 0), "20: 5 5 5 5");
    }
}
