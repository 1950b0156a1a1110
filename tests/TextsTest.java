/** The texts, and promises 10 to 13: type, clearText, perform, stopped. */
public final class TextsTest {
    private static final String DIGITS = "0123456789";
    /** Beginnings of texts, and behind each one what may stand at the next place. */
    private static final String[][] NEXT = {
        {"", "trs"}, {"t5;", "trs"}, {"r7;", "trs"}, {"s1=2;", "trs"},
        {"t", "-" + DIGITS}, {"t-", DIGITS}, {"t0", "*;"}, {"t-0", "*;"}, {"t2", DIGITS + "*;"}, {"t-2", DIGITS + "*;"},
        {"t3", "0*;"}, {"t-3", "0*;"}, {"t4", "*;"}, {"t30", "*;"}, {"t29", "*;"}, {"t-30", "*;"},
        {"t5*", "123456789"}, {"t-30*", "123456789"}, {"t5*1", DIGITS + ";"}, {"t5*9", DIGITS + ";"}, {"t5*99", ";"},
        {"t5*10", ";"}, {"r", DIGITS}, {"r0", ";"}, {"r1", DIGITS + ";"}, {"r9", DIGITS + ";"}, {"r99", ";"},
        {"s", DIGITS}, {"s0", "="}, {"s1", DIGITS + "="}, {"s3", DIGITS + "="}, {"s4", "="}, {"s9", "="}, {"s39", "="},
        {"s5=", DIGITS}, {"s39=", DIGITS}, {"s5=0", ";"}, {"s5=5", DIGITS + ";"}, {"s5=6", "0;"}, {"s5=7", ";"},
        {"s5=60", ";"}, {"s5=59", ";"}};

    public static void main(String[] args) {
        text();
        tides();
        flowsAndSills();
        numbers();
        faults();
        type();
        clearText();
        perform();
        performActs();
        performAnswers();
        stopped();
        Check.end();
    }

    private static void deep(SaltWedge x) {
        x.dig(0, 60);
        x.dig(5, 60);
        x.dig(39, 60);
    }

    /** The text is fine, and has so many things. */
    private static void fine(String text, int things) {
        Check.act("perform of " + text, x -> {
            deep(x);
            Check.write(x, text);
        }, SaltWedge::perform, things);
    }

    /** The text has a fault, and nothing of it is done. */
    private static void fault(String text, int index) {
        Check.refused("perform of " + text, x -> {
            Check.some(x);
            Check.write(x, text);
        }, SaltWedge::perform, -100 - index);
    }

    private static void text() {
        Doc.section("TEXTS");
        Doc.says("There is a text of at most 60 characters, empty at first.");
        SaltWedge x = new SaltWedge();
        Check.due("at first: count(13)", x.count(13), 0);
        Check.due("at first: perform()", x.perform(), -100);
        Check.due("at first: clearText()", x.clearText(), 0);
        Check.write(x, "t0*99;t0*99;t0*99;t0*99;t0*99;t0*99;t0*99;t0*99;t0*99;t-1*9");
        Check.due("59 characters", x.count(13), 59);
        Check.due("the 60th", x.type('8'), 60);
        Check.due("one more", x.type('8'), SaltWedge.FULL);
        Check.due("60 characters", x.count(13), 60);
        Check.due("60 characters: perform()", x.perform(), 10);
        Check.due("60 characters: the last one counts", x.count(0), 9 * 99 + 98);

        Doc.says("Tides are a text: one or more of these with \";\" between two:");
        fine("t5", 1);
        fine("r5", 1);
        fine("s5=5", 1);
        fine("t5;t5", 2);
        fine("s5=5;r5;t5;r6;s5=4", 5);
        fine("t0;".repeat(19) + "t0", 20);
        fine("t0;".repeat(19) + "t11", 20);
        fault("", 0);
        fault(";", 0);
        fault(";t5", 0);
        fault("t5;", 3);
        fault("t5;;t5", 3);
        fault("t5,t5", 2);
        fault("t5 ;t5", 2);
        fault("t5t5", 2);
        fault("t5r5", 2);
        fault("t5*9t5", 4);
        fault("t0;".repeat(19) + "t01", 59);
    }

    private static void tides() {
        Doc.says("\"t\", perhaps \"-\", and a rise (0 to 30), and perhaps \"*\" and how many times (1 to 99);");
        for (int rise = 0; rise <= 30; rise++) {
            oneTide("t" + rise, rise);
            oneTide("t-" + rise, -rise);
        }
        for (int times = 1; times <= 99; times++) {
            SaltWedge x = new SaltWedge();
            Check.due("t9*" + times, Check.perform(x, "t9*" + times), 1);
            Check.due("t9*" + times + ": count(0)", x.count(0), times);
        }
        fine("t0", 1);
        fine("t-0", 1);
        fine("t30*99", 1);
        fine("t-30*1", 1);
        fault("t31", 2);
        fault("t-31", 3);
        fault("t5*0", 3);
        fault("t5*100", 5);
        fault("t*5", 1);
        fault("t+5", 1);
        fault("t--5", 2);
        fault("t5-", 2);
        fault("t5*-1", 3);
        fault("t5**5", 3);
        fault("t5*5*5", 4);
        fault("t5=5", 2);
    }

    /** With a push of 30 and its rise, the height of the cell 0 tells the rise. */
    private static void oneTide(String text, int rise) {
        SaltWedge x = new SaltWedge();
        x.dig(0, 60);
        x.set(0, 30);
        x.set(2, 60);
        x.flow(0);
        Check.due(text, Check.perform(x, text), 1);
        Check.due(text + ": count(0)", x.count(0), 1);
        Check.due(text + ": cell(0, 2)", x.cell(0, 2), 30 + rise);
    }

    private static void flowsAndSills() {
        Doc.says("\"r\" and a flow (0 to 99: the river flows so);");
        for (int flow = 0; flow <= 99; flow++) {
            SaltWedge x = new SaltWedge();
            Check.due("r" + flow, Check.perform(x, "r" + flow), 1);
            Check.due("r" + flow + ": count(1)", x.count(1), flow);
        }
        fine("r0", 1);
        fine("r99", 1);
        fault("r100", 3);
        fault("r-1", 1);
        fault("r5*2", 2);
        fault("r5=3", 2);

        Doc.says("\"s\", a cell (0 to 39), \"=\" and a sill (0 to 60).");
        for (int cell = 0; cell <= 39; cell++) {
            SaltWedge x = new SaltWedge();
            Check.due("s" + cell + "=7", Check.perform(x, "s" + cell + "=7"), 1);
            Check.due("s" + cell + "=7: the sill", x.cell(cell, 1), 7);
        }
        for (int sill = 0; sill <= 60; sill++) {
            SaltWedge x = Check.made(TextsTest::deep);
            Check.due("s5=" + sill, Check.perform(x, "s5=" + sill), 1);
            Check.due("s5=" + sill + ": the sill", x.cell(5, 1), sill);
        }
        fine("s0=0", 1);
        fine("s39=60", 1);
        fault("s40=5", 2);
        fault("s5=61", 4);
        fault("s-1=5", 1);
        fault("s5=-1", 3);
        fault("s=5", 1);
        fault("s5*5", 2);
        fault("s5==5", 3);
        fault("s5=5=5", 4);
        fault("s5=5*2", 4);
    }

    private static void numbers() {
        Doc.says("Numbers have no zero in front, unless they are the single digit 0;");
        fault("t00", 2);
        fault("t05", 2);
        fault("t030", 2);
        fault("t-00", 3);
        fault("t-05", 3);
        fault("t5*05", 3);
        fault("t5*00", 3);
        fault("r00", 2);
        fault("r09", 2);
        fault("s00=5", 2);
        fault("s05=5", 2);
        fault("s5=00", 4);
        fault("s5=05", 4);
        fine("t0;t-0;r0;s0=0", 4);
        fine("t10;t20;r10;r90;s10=10;s20=20;t10*10;t9*90", 8);

        Doc.says("a digit by which a number would be greater than told is not allowed.");
        allNumbers("t", "", 0, 30);
        allNumbers("t-", "", 0, 30);
        allNumbers("t", "*5", 0, 30);
        allNumbers("t5*", "", 1, 99);
        allNumbers("r", "", 0, 99);
        allNumbers("r", ";t5", 0, 99);
        allNumbers("s", "=5", 0, 39);
        allNumbers("s5=", "", 0, 60);
        allNumbers("s39=", ";t5", 0, 60);
        fault("t31", 2);
        fault("t300", 3);
        fault("t5*100", 5);
        fault("r100", 3);
        fault("s40=5", 2);
        fault("s390=5", 3);
        fault("s5=61", 4);
        fault("s5=600", 5);
        fault("r99999999999999999999", 3);
    }

    /** Each number from 0 to 1300 at one place of a text: it is fine, or its first digit too much is the fault. */
    private static void allNumbers(String before, String behind, int least, int most) {
        for (int number = 0; number <= 1300; number++) {
            String digits = String.valueOf(number);
            int want = behind.contains(";") ? 2 : 1;
            for (int at = digits.length() - 1; at >= 0; at--) {
                int read = Integer.parseInt(digits.substring(0, at + 1));
                want = read < least || read > most ? -100 - before.length() - at : want;
            }
            SaltWedge x = Check.made(TextsTest::deep);
            Check.due("perform of " + before + digits + behind, Check.perform(x, before + digits + behind), want);
        }
    }

    private static void faults() {
        Doc.says("The fault of the text is the index, from 0, of the first character that is not allowed at its place,");
        for (String[] next : NEXT) {
            for (int sign = 0; sign < 300; sign++) {
                oneSign(next[0], (char) sign, next[1].indexOf(sign) >= 0);
                oneSign(next[0], (char) (65535 - sign), false);
            }
            for (char allowed : next[1].toCharArray()) {
                oneSign(next[0], (char) (allowed + 256), false);
            }
        }
        fault("x", 0);
        fault("T5", 0);
        fault(" t5", 0);
        fault("t5 ", 2);
        fault("t5;R5", 3);
        fault("t5;r5;s5;t5*", 8);
        fault("t5x;t", 2);
        fault("t\uff11", 1);
        fault("t\u0661", 1);
        fault("t".repeat(60), 1);
        fault("r99;s39=60;t-30*99;t-30*99;t-30*99;t-30*99;t-30*99;t-30*99;x", 59);

        Doc.says("or the length of the text if it ends too early (the empty text does).");
        fault("", 0);
        String all = "t-30*99;r99;s39=60;t0";
        int[] things = {0, 0, 0, 1, 1, 0, 1, 1, 0, 0, 2, 2, 0, 0, 0, 0, 0, 3, 3, 0, 0, 4};
        for (int length = 0; length <= all.length(); length++) {
            SaltWedge x = Check.made(TextsTest::deep);
            String text = all.substring(0, length);
            Check.due("perform of " + text, Check.perform(x, text), things[length] > 0 ? things[length] : -100 - length);
        }
        for (String text : new String[] {"t", "t-", "t5*", "t5;", "r", "s", "s3", "s39", "s5=", "t5;r", "r5;s5="}) {
            fault(text, text.length());
        }
        fault("t0;".repeat(20), 60);
        fault("t0;".repeat(19) + "t-", 59);
    }

    private static void oneSign(String before, char sign, boolean allowed) {
        SaltWedge x = Check.made(TextsTest::deep);
        int answer = Check.perform(x, before + sign);
        Check.due("behind \"" + before + "\" the sign " + (int) sign + " is not allowed",
            answer == -100 - before.length() ? 1 : 0, allowed ? 0 : 1);
    }

    private static void type() {
        Doc.section("Promise 10: type");
        Doc.says("`int type(char character)`: Types a character behind the text.");
        SaltWedge x = new SaltWedge();
        x.type('r');
        x.type('7');
        x.type('3');
        Check.due("perform()", x.perform(), 1);
        Check.due("they stand in their order", x.count(1), 73);
        Check.due("it is no act", x.count(12), 1);
        for (int any = 0; any < 65536; any += 97) {
            char sign = (char) any;
            Check.changes("type " + any, y -> y.type(sign), 9, "count(13)");
        }

        Doc.says("- `character`: any character");
        char[] any = {'t', (char) 0, (char) 65535, ' ', 'T', (char) 233, '\n', (char) 55296, (char) 127};
        SaltWedge y = new SaltWedge();
        for (int at = 0; at < 60; at++) {
            Check.due("the " + (at + 1) + "th", y.type(any[at % any.length]), at + 1);
        }

        Doc.says("Returns the length of the text then;");
        SaltWedge z = new SaltWedge();
        for (int length = 1; length <= 60; length++) {
            Check.due("type", z.type('t'), length);
            Check.due("count(13)", z.count(13), length);
        }

        Doc.says("FULL if it has 60 characters.");
        Check.due("the 60th", Check.made(w -> Check.write(w, "t".repeat(59))).type('t'), 60);
        Check.refused("the 61st", w -> Check.write(w, "t0;".repeat(19) + "t11"), w -> w.type('x'), SaltWedge.FULL);
        Check.refused("the 61st, if it would be fine", w -> Check.write(w, "t0;".repeat(20)), w -> w.type('t'),
            SaltWedge.FULL);
    }

    private static void clearText() {
        Doc.section("Promise 11: clearText");
        Doc.says("`int clearText()`: Empties the text.");
        SaltWedge x = new SaltWedge();
        Check.write(x, "t5;r3");
        x.clearText();
        Check.due("count(13)", x.count(13), 0);
        Check.due("perform()", x.perform(), -100);
        Check.due("it is no act", x.count(12), 0);
        Check.changes("clearText()", SaltWedge::clearText, 8, "count(13)");
        x.type('r');
        Check.due("nothing of the old text is left", x.perform(), -101);
        Check.write(x, "t".repeat(60));
        x.clearText();
        Check.due("there is room again", x.type('t'), 1);

        Doc.says("Returns the length that it had.");
        Check.write(x, "t5;r3");
        Check.due("of 5", x.clearText(), 5);
        Check.due("of the empty text", x.clearText(), 0);
        Check.write(x, "t");
        Check.due("of 1", x.clearText(), 1);
        Check.write(x, "t".repeat(60));
        Check.due("of 60", x.clearText(), 60);
    }

    private static void perform() {
        Doc.section("Promise 12: perform");
        Doc.says("`int perform()`: Does all that the text tells, which stays, one after the other (as tide(), flow() "
            + "and build());");
        SaltWedge told = new SaltWedge();
        SaltWedge done = new SaltWedge();
        told.sink(3, 14);
        done.sink(3, 14);
        Check.due("perform()", Check.perform(told, "t12*7;r4;s9=13;t-5;s0=20;t30*2;s0=0;r4;t1*10"), 9);
        done.tide(12, 7);
        done.flow(4);
        done.build(9, 13);
        done.tide(-5, 1);
        done.build(0, 20);
        done.tide(30, 2);
        done.build(0, 0);
        done.tide(1, 10);
        Check.same("what the calls do", Check.state(told), Check.state(done));
        Check.due("the text stays", told.count(13), 44);
        Check.due("perform() again", told.perform(), 9);
        Check.due("the tides", told.count(0), 40);

        Doc.says("all of it, or nothing.");
        Check.refused("the last thing is stopped", x -> {
            Check.some(x);
            Check.write(x, "t5*3;r40;s2=9;t4;s2=21");
            x.perform();
        }, SaltWedge::perform, SaltWedge.NOT_POSSIBLE);
        Check.refused("the first thing is stopped", x -> {
            Check.some(x);
            Check.write(x, "s2=21;t5*3;r40");
            x.perform();
        }, SaltWedge::perform, SaltWedge.NOT_POSSIBLE);
        Check.refused("a fault behind things that could be done", x -> {
            Check.some(x);
            Check.write(x, "t5*3;r40;s2=9;t");
        }, SaltWedge::perform, -115);
    }

    private static void performActs() {
        Doc.says("This is one act.");
        Check.act("a tide", x -> Check.write(x, "t9"), SaltWedge::perform, 1);
        Check.act("ten things", x -> {
            Check.some(x);
            Check.write(x, "t0;t-0*1;t30*99;r0;r99;s0=0;s38=20;t-30*9;t29;t-10");
        }, SaltWedge::perform, 10);

        Doc.says("What would return NONE does not stop it;");
        Check.act("what is so already", x -> Check.write(x, "r10;s0=0"), SaltWedge::perform, 2);
        SaltWedge x = new SaltWedge();
        Check.due("some is so already", Check.perform(x, "r10;r11;r11;s3=0;s3=4;s3=4;t0"), 7);
        Check.due("the flow", x.count(1), 11);
        Check.due("the sill", x.cell(3, 1), 4);
        Check.due("the tides", x.count(0), 1);
        Check.due("no stop", x.stopped(0), SaltWedge.NONE);

        Doc.says("what would return an error stops it.");
        SaltWedge y = new SaltWedge();
        Check.due("a sill of just the depth", Check.perform(y, "s2=20"), 1);
        Check.due("a sill of 1 more", Check.perform(y, "s2=21"), SaltWedge.NOT_POSSIBLE);
        Check.due("its error", y.stopped(1), SaltWedge.NOT_POSSIBLE);
        SaltWedge z = Check.made(Check::almostAllTides);
        Check.due("99990 tides, 9 and 1", Check.perform(z, "r9;t0*9;t0"), SaltWedge.NOT_POSSIBLE);
        Check.due("the number of the one too many", z.stopped(0), 2);
        Check.due("the error of the one too many", z.stopped(1), SaltWedge.FULL);
        Check.due("no tide came", z.count(0), 99990);
        Check.due("the river flows as before", z.count(1), 10);
        Check.due("99990 tides and 9", Check.perform(z, "r9;t0*5;t0*4"), 3);
        Check.due("99999 tides", z.count(0), 99999);
        Check.due("99999 tides and 1", Check.perform(z, "t0"), SaltWedge.NOT_POSSIBLE);
        Check.due("99999 tides, and no tide", Check.perform(z, "r8"), 1);
    }

    private static void performAnswers() {
        Doc.says("Returns how many things the text has;");
        for (int things = 1; things <= 20; things++) {
            SaltWedge x = new SaltWedge();
            Check.due(things + " things", Check.perform(x, "t0;".repeat(things - 1) + "r9"), things);
            Check.due(things + " things: count(0)", x.count(0), things - 1);
            Check.due(things + " things: count(1)", x.count(1), 9);
        }

        Doc.says("-100 minus the fault of the text if it has one (which is an error);");
        fault("", 0);
        fault("t5;r5;q", 6);
        fault("t0;".repeat(20), 60);
        Check.refused("a fault behind a sill too high", x -> Check.write(x, "s2=21;t5*"), SaltWedge::perform, -109);
        Check.refused("a fault, and 99999 tides", x -> {
            Check.almostAllTides(x);
            Check.write(x, "t5*10;s");
        }, SaltWedge::perform, -107);

        Doc.says("NOT_POSSIBLE if any is stopped.");
        SaltWedge x = new SaltWedge();
        Check.due("a sill too high", Check.perform(x, "r7;t5*3;s2=21;t4;s3=21"), SaltWedge.NOT_POSSIBLE);
        Check.due("count(0)", x.count(0), 0);
        Check.due("count(1)", x.count(1), 10);
        Check.due("count(12)", x.count(12), 0);
        Check.due("the text stays", x.count(13), 22);
        x.dig(2, 21);
        Check.due("the other one too high", x.perform(), SaltWedge.NOT_POSSIBLE);
        Check.due("its number", x.stopped(0), 4);
        x.dig(3, 21);
        Check.due("in a bed deep enough", x.perform(), 5);
        Check.due("the sill", x.cell(2, 1), 21);
    }

    private static void stopped() {
        Doc.section("Promise 13: stopped");
        Doc.says("`int stopped(int what)`: Tells of the latest stop of perform().");
        SaltWedge x = new SaltWedge();
        Check.perform(x, "t5;s2=21");
        Check.due("a stop", x.stopped(0), 1);
        Check.perform(x, "t5;t5;s2=21");
        Check.due("a later one", x.stopped(0), 2);
        Check.perform(x, "t5;t5;s2=20");
        Check.due("behind perform() without a stop", x.stopped(0), 2);
        Check.perform(x, "t5;t");
        Check.due("behind a fault of the text", x.stopped(0), 2);
        x.undo();
        x.keep();
        x.restore();
        x.clearText();
        Check.due("it is no part of the state", x.stopped(0), 2);
        Check.due("it is no part of the state, its error", x.stopped(1), SaltWedge.NOT_POSSIBLE);

        Doc.says("- `what`: 0 for its number in the text, from 0, 1 for the error");
        SaltWedge y = new SaltWedge();
        Check.perform(y, "s2=21;t5;t5");
        Check.due("the first thing", y.stopped(0), 0);
        Check.due("its error", y.stopped(1), SaltWedge.NOT_POSSIBLE);
        Check.perform(y, "t0;".repeat(18) + "s2=21");
        Check.due("the last thing of 19", y.stopped(0), 18);
        SaltWedge z = Check.made(Check::almostAllTides);
        Check.perform(z, "t5;t5*9");
        Check.due("a tide too many", z.stopped(0), 1);
        Check.due("its error", z.stopped(1), SaltWedge.FULL);

        Doc.says("Returns the number;");
        Check.refused("stopped(0)", Check::some, w -> w.stopped(0), 1);
        Check.refused("stopped(1)", Check::some, w -> w.stopped(1), SaltWedge.NOT_POSSIBLE);

        Doc.says("BAD_VALUE;");
        Check.refusedBeyond("stopped(..)", SaltWedge::stopped, 0, 1, SaltWedge.BAD_VALUE);
        Check.refused("stopped(-1), nothing stopped", Check::fresh, w -> w.stopped(-1), SaltWedge.BAD_VALUE);
        Check.refused("stopped(2), nothing stopped", Check::fresh, w -> w.stopped(2), SaltWedge.BAD_VALUE);

        Doc.says("NONE if nothing was stopped yet.");
        Check.refused("stopped(0)", Check::fresh, w -> w.stopped(0), SaltWedge.NONE);
        Check.refused("stopped(1)", Check::fresh, w -> w.stopped(1), SaltWedge.NONE);
        Check.refused("stopped(0), a fault stops nothing", w -> Check.perform(w, "t5;t"), w -> w.stopped(0),
            SaltWedge.NONE);
        Check.refused("stopped(0), what is so already stops nothing", w -> Check.perform(w, "r10;t5"),
            w -> w.stopped(0), SaltWedge.NONE);
        Check.refused("stopped(0), build() is not performed", w -> w.build(2, 21), w -> w.stopped(0), SaltWedge.NONE);
    }
}
