/** Promises 6 to 9: sink, fillIn, setRate, tide. */
public final class WellsTest {
    public static void main(String[] args) {
        sink();
        fillIn();
        fillInThoseThatRest();
        setRate();
        tide();
        tidesAreBounded();
        wellsDraw();
        wellsShare();
        wellsRest();
        Check.end();
    }

    /** Wells beside the cells 1, 3 and 4, a wedge, a snapshot and a stop. */
    private static void some(SaltWedge x) {
        x.sink(3, 7);
        x.keep();
        x.sink(1, 12);
        x.sink(4, 2);
        Check.perform(x, "s0=60");
        x.tide(8, 3);
    }

    private static void six(SaltWedge x) {
        for (int cell = 0; cell < 6; cell++) {
            x.sink(3 * cell, cell + 1);
        }
    }

    /** Promise 6. */
    private static void sink() {
        Check.act("sink(0, 1)", x -> { }, x -> x.sink(0, 1), 0);
        Check.act("sink(39, 30)", WellsTest::some, x -> x.sink(39, 30), 3);
        SaltWedge x = new SaltWedge();
        for (int number = 0; number < 6; number++) {
            Check.due("sink: number " + number, x.sink(5 * number, 30 - number), number);
            Check.due("sink: count(4)", x.count(4), number + 1);
            Check.due("sink: its cell", x.well(number, 0), 5 * number);
            Check.due("sink: its rate", x.well(number, 1), 30 - number);
            for (int what : new int[] {2, 3, 5, 6}) {
                Check.due("sink: well(" + number + ", " + what + ")", x.well(number, what), 0);
            }
            Check.due("sink: the well beside", x.cell(5 * number, 3), number);
        }
        Check.refused("sink(-1, 5)", WellsTest::six, y -> y.sink(-1, 5), SaltWedge.UNKNOWN);
        Check.refused("sink(40, 0)", WellsTest::six, y -> y.sink(40, 0), SaltWedge.UNKNOWN);
        Check.refused("sink(0, 0)", WellsTest::six, y -> y.sink(0, 0), SaltWedge.BAD_VALUE);
        Check.refused("sink(0, 31)", WellsTest::six, y -> y.sink(0, 31), SaltWedge.BAD_VALUE);
        Check.refused("sink(3, 5) of six", WellsTest::six, y -> y.sink(3, 5), SaltWedge.NOT_POSSIBLE);
        Check.refused("sink(3, 7)", WellsTest::some, y -> y.sink(3, 7), SaltWedge.NOT_POSSIBLE);
        Check.refused("sink(1, 5) of six", WellsTest::six, y -> y.sink(1, 5), SaltWedge.FULL);
        Check.act("sink into the room of one filled in", y -> {
            six(y);
            y.fillIn(2);
        }, y -> y.sink(6, 5), 5);
    }

    /** Promise 7. */
    private static void fillIn() {
        Check.act("fillIn(0)", WellsTest::some, x -> x.fillIn(0), 0);
        Check.act("fillIn(2)", WellsTest::some, x -> x.fillIn(2), 0);
        SaltWedge x = new SaltWedge();
        six(x);
        x.dig(6, 1);
        x.tide(30, 4);
        int[] salts = new int[6];
        for (int well = 0; well < 6; well++) {
            salts[well] = x.well(well, 2);
        }
        Check.due("fillIn: salt", x.fillIn(2), salts[2]);
        Check.hold("fillIn: there was salt", salts[2] > 0);
        Check.due("fillIn: count(4)", x.count(4), 5);
        Check.due("fillIn: its cell", x.cell(6, 3), SaltWedge.NONE);
        for (int well = 0; well < 5; well++) {
            int before = well < 2 ? well : well + 1;
            Check.due("fillIn: cell of " + well, x.well(well, 0), 3 * before);
            Check.due("fillIn: rate of " + well, x.well(well, 1), before + 1);
            Check.due("fillIn: salt of " + well, x.well(well, 2), salts[before]);
            Check.due("fillIn: water of " + well, x.well(well, 5), 4 * (before + 1));
            Check.due("fillIn: the well beside", x.cell(3 * before, 3), well);
        }
        Check.due("fillIn: the number behind", x.well(5, 0), SaltWedge.UNKNOWN);
        Check.due("fillIn: water of those there", x.count(7), 4 * (1 + 2 + 4 + 5 + 6));
        Check.due("fillIn: a new one", x.sink(6, 9), 5);
        for (int what : new int[] {2, 3, 5, 6}) {
            Check.due("fillIn: the new one has nothing of an old one", x.well(5, what), 0);
        }
        Check.refused("fillIn(-1)", WellsTest::some, y -> y.fillIn(-1), SaltWedge.UNKNOWN);
        Check.refused("fillIn(3)", WellsTest::some, y -> y.fillIn(3), SaltWedge.UNKNOWN);
        Check.refused("fillIn(6)", WellsTest::six, y -> y.fillIn(6), SaltWedge.UNKNOWN);
    }

    private static void fillInThoseThatRest() {
        SaltWedge x = new SaltWedge();
        x.set(1, 0);
        x.set(2, 60);
        for (int number = 0; number < 6; number++) {
            x.sink(3 * number, 30);
        }
        x.tide(30, 2);
        Check.due("six that rest", x.count(5), 6);
        x.fillIn(3);
        x.sink(1, 5);
        for (int what : new int[] {2, 3, 5, 6}) {
            Check.due("fillIn: the place of the last one", x.well(5, what), 0);
        }
        for (int number = 0; number < 6; number++) {
            x.fillIn(0);
        }
        for (int number = 0; number < 6; number++) {
            x.sink(3 * number, number % 2 == 0 ? 30 : 1);
        }
        x.tide(30, 2);
        for (int number = 0; number < 6; number++) {
            Check.due("two tides: salt", x.well(number, 2), number % 2 == 0 ? 60 : 2);
        }
        Check.due("fillIn of one that rests", x.fillIn(0), 60);
        int[] rests = {0, 1, 0, 1, 0};
        for (int number = 0; number < 5; number++) {
            Check.due("fillIn: rests " + number, x.well(number, 3), rests[number]);
            Check.due("fillIn: turned " + number, x.well(number, 6), rests[number]);
        }
        x.sink(16, 9);
        Check.due("fillIn: shared with one behind", x.well(4, 4), 0);
        Check.due("fillIn: the new one shares", x.well(5, 4), 8);
        x.fillIn(1);
        x.setRate(3, 20);
        Check.due("fillIn: the last one counts once", x.well(3, 4), 11);
        x.fillIn(4);
        x.fillIn(3);
        Check.due("fillIn: the last one rests", x.well(2, 3), 1);
        x.fillIn(2);
        x.sink(12, 5);
        x.sink(1, 5);
        for (int what : new int[] {2, 3, 5, 6}) {
            Check.due("fillIn: the place of one that rested", x.well(2, what), 0);
            Check.due("fillIn: the place of one with salt", x.well(3, what), 0);
        }
    }

    /** Promise 8. */
    private static void setRate() {
        Check.act("setRate(0, 30)", WellsTest::some, x -> x.setRate(0, 30), 7);
        Check.act("setRate(1, 1)", WellsTest::some, x -> x.setRate(1, 1), 12);
        SaltWedge x = new SaltWedge();
        some(x);
        x.setRate(0, 9);
        Check.due("setRate: the rate", x.well(0, 1), 9);
        Check.due("setRate: another one", x.well(1, 1), 12);
        Check.due("setRate: the cone", x.well(0, 4), 7);
        Check.refused("setRate(-1, 5)", WellsTest::some, y -> y.setRate(-1, 5), SaltWedge.UNKNOWN);
        Check.refused("setRate(3, 0)", WellsTest::some, y -> y.setRate(3, 0), SaltWedge.UNKNOWN);
        Check.refused("setRate(0, 0)", WellsTest::some, y -> y.setRate(0, 0), SaltWedge.BAD_VALUE);
        Check.refused("setRate(0, 31)", WellsTest::some, y -> y.setRate(0, 31), SaltWedge.BAD_VALUE);
        Check.refused("setRate(0, 7)", WellsTest::some, y -> y.setRate(0, 7), SaltWedge.NONE);
    }

    /** Promise 9. */
    private static void tide() {
        Check.act("tide(0, 1)", WellsTest::some, x -> x.tide(0, 1), 13);
        Check.act("tide(-30, 99)", WellsTest::some, x -> x.tide(-30, 99), 0);
        Check.act("tide(30, 99)", WellsTest::some, x -> x.tide(30, 99), 20);
        Check.act("a tide without salt", x -> { }, x -> x.tide(-30, 1), 0);
        Check.refused("tide(-31, 1)", WellsTest::some, x -> x.tide(-31, 1), SaltWedge.BAD_VALUE);
        Check.refused("tide(31, 1)", WellsTest::some, x -> x.tide(31, 1), SaltWedge.BAD_VALUE);
        Check.refused("tide(0, 0)", WellsTest::some, x -> x.tide(0, 0), SaltWedge.BAD_VALUE);
        Check.refused("tide(0, 100)", WellsTest::some, x -> x.tide(0, 100), SaltWedge.BAD_VALUE);
        Check.refused("tide(MIN, MAX)", WellsTest::some,
                x -> x.tide(Integer.MIN_VALUE, Integer.MAX_VALUE), SaltWedge.BAD_VALUE);

        SaltWedge x = new SaltWedge();
        Check.due("tide(2, 1)", x.tide(2, 1), 12);
        int[] first = {5, 5, 5, 5, 5, 5, 5, 5, 4, 3, 2, 1, 0};
        for (int cell = 0; cell < first.length; cell++) {
            Check.due("the first tide: cell " + cell, x.cell(cell, 2), first[cell]);
            Check.due("the first tide: behind it, cell " + cell, x.cell(cell, 4), first[cell] > 0 ? 1 : 0);
        }
        Check.due("tide(-9, 1)", x.tide(-9, 1), 1);
        int[] second = {1, 0, 0, 0, 0, 0, 0, 0, 0};
        for (int cell = 0; cell < second.length; cell++) {
            Check.due("the second tide: cell " + cell, x.cell(cell, 2), second[cell]);
        }
        Check.due("the tides: behind them, cell 0", x.cell(0, 4), 2);
        Check.due("the tides: behind them, cell 1", x.cell(1, 4), 1);
        Check.due("the tides: so far", x.count(0), 2);
        Check.due("the tides: farthest", x.count(8), 11);
        Check.due("tide(-30, 3)", x.tide(-30, 3), 0);
        Check.due("the tides: so far", x.count(0), 5);
        Check.due("the tides: still farthest", x.count(8), 11);
        Check.due("the tides: behind them, cell 0", x.cell(0, 4), 2);
    }

    private static void almostAllTides(SaltWedge x) {
        Check.write(x, "t0*99;t0*99;t0*99;t0*99;t0*99;t0*99;t0*99;t0*99;t0*99;t0*99");
        for (int times = 0; times < 101; times++) {
            x.perform();
        }
    }

    private static void tidesAreBounded() {
        Check.act("99990 tides and 9", WellsTest::almostAllTides, x -> x.tide(0, 9), 10);
        Check.refused("99990 tides and 10", WellsTest::almostAllTides, x -> x.tide(0, 10), SaltWedge.FULL);
        Check.refused("99990 tides, and 100", WellsTest::almostAllTides, x -> x.tide(0, 100), SaltWedge.BAD_VALUE);
        Check.refused("99990 tides and 10 of a text", x -> {
            almostAllTides(x);
            Check.write(x, "r9;t0*5;t0*5");
            x.perform();
        }, SaltWedge::perform, SaltWedge.NOT_POSSIBLE);
        SaltWedge x = new SaltWedge();
        almostAllTides(x);
        Check.due("99990 tides: count(0)", x.count(0), 99990);
        Check.due("99990 tides, 9 and 1 of a text", Check.perform(x, "r9;t0*9;t0"), SaltWedge.NOT_POSSIBLE);
        Check.due("its stop", x.stopped(0), 2);
        Check.due("its error", x.stopped(1), SaltWedge.FULL);
        Check.due("tide(0, 9)", x.tide(0, 9), 10);
        Check.due("tide(0, 1)", x.tide(0, 1), SaltWedge.FULL);
        Check.due("at the end: count(0)", x.count(0), 99999);
        Check.due("at the end: count(1)", x.count(1), 10);
        x.sink(0, 11);
        Check.due("tides are told though no more may come", x.restsIn(0, 0), 50);
    }

    /** The salt that a well gets: wedge and cone above what the sill leaves of the depth. */
    private static void wellsDraw() {
        SaltWedge x = new SaltWedge();
        x.set(2, 60);
        x.sink(0, 10);
        x.tide(0, 1);
        Check.due("10 and 10 of 20: salt", x.well(0, 2), 0);
        x.setRate(0, 13);
        x.tide(0, 3);
        Check.due("10 and 13 of 20: salt", x.well(0, 2), 9);
        Check.due("10 and 13 of 20: water", x.well(0, 5), 49);
        x.build(0, 4);
        x.tide(0, 1);
        Check.due("10 and 13 of 16: salt", x.well(0, 2), 16);
        x.build(0, 10);
        x.tide(0, 1);
        Check.due("0 and 13 of 10: salt", x.well(0, 2), 19);
        x.build(0, 7);
        x.tide(-30, 1);
        Check.due("0 and 13 of 13: salt", x.well(0, 2), 17);
        x.tide(-30, 8);
        Check.due("some tides on: salt", x.well(0, 2), 1);
        x.tide(-30, 1);
        Check.due("no less than nothing: salt", x.well(0, 2), 0);
        Check.due("water", x.well(0, 5), 10 + 13 * 15);
        Check.due("all water", x.count(7), 10 + 13 * 15);
        x.tide(30, 1);
        Check.due("the wedge is held by the depth: salt", x.well(0, 2), 20);
    }

    private static void wellsShare() {
        SaltWedge x = new SaltWedge();
        x.sink(5, 30);
        Check.due("alone: cone", x.well(0, 4), 30);
        x.sink(7, 5);
        Check.due("two cells on: cone", x.well(0, 4), 30);
        x.sink(4, 4);
        Check.due("the cell below: cone", x.well(0, 4), 26);
        Check.due("the cell below: its cone", x.well(2, 4), 0);
        x.sink(6, 7);
        Check.due("the cells on both sides: cone", x.well(0, 4), 19);
        Check.due("the cells on both sides: the other one", x.well(1, 4), 0);
        x.setRate(1, 12);
        Check.due("the other one", x.well(1, 4), 5);
        x.fillIn(2);
        Check.due("without the cell below", x.well(0, 4), 23);
        SaltWedge y = new SaltWedge();
        y.sink(0, 8);
        y.sink(39, 9);
        Check.due("the ends share nothing", y.well(0, 4) * 100 + y.well(1, 4), 809);
    }

    private static void wellsRest() {
        SaltWedge x = new SaltWedge();
        x.set(2, 60);
        x.sink(0, 30);
        x.tide(0, 2);
        Check.due("salt of 40", x.well(0, 2), 40);
        Check.due("40: rests", x.well(0, 3), 0);
        x.setRate(0, 19);
        x.tide(0, 1);
        Check.due("salt of 49", x.well(0, 2), 49);
        Check.due("49: rests", x.well(0, 3), 0);
        x.undo();
        x.setRate(0, 20);
        x.sink(1, 3);
        Check.due("sharing", x.well(0, 4), 17);
        x.fillIn(1);
        x.tide(0, 1);
        Check.due("salt of 50", x.well(0, 2), 50);
        Check.due("50: rests", x.well(0, 3), 1);
        Check.due("50: turned", x.well(0, 6), 1);
        Check.due("50: cone", x.well(0, 4), 0);
        Check.due("50: those that rest", x.count(5), 1);
        Check.due("50: water", x.well(0, 5), 80);
        x.sink(1, 3);
        Check.due("a resting one does not count", x.well(1, 4), 3);
        x.tide(30, 24);
        Check.due("resting: salt", x.well(0, 2), 2);
        Check.due("resting: rests", x.well(0, 3), 1);
        Check.due("resting: water", x.well(0, 5), 80);
        x.tide(0, 1);
        Check.due("rested: salt", x.well(0, 2), 0);
        Check.due("rested: rests", x.well(0, 3), 0);
        Check.due("rested: water", x.well(0, 5), 80);
        Check.due("rested: cone", x.well(0, 4), 17);
        x.tide(0, 10);
        Check.due("a second time: turned", x.well(0, 6), 2);
        Check.due("a second time: rests", x.well(0, 3), 1);
        atOnce();
    }

    /** Those that rest at the beginning of a tide rest in all of it, and the others in none of it. */
    private static void atOnce() {
        SaltWedge x = new SaltWedge();
        x.set(1, 0);
        x.set(2, 60);
        x.sink(3, 30);
        x.tide(30, 1);
        Check.due("at once: salt", x.well(0, 2), 30);
        x.setRate(0, 21);
        x.sink(4, 1);
        x.tide(30, 1);
        Check.due("at once: turned", x.well(0, 2) * 10 + x.well(0, 3), 501);
        Check.due("at once: it still counted", x.well(1, 2), 0);
        x.tide(30, 24);
        Check.due("at once: it rests", x.well(0, 2) * 10 + x.well(0, 3), 21);
        Check.due("at once: it does not count", x.well(1, 2), 24);
        x.tide(30, 1);
        Check.due("at once: it has rested", x.well(0, 2) * 10 + x.well(0, 3), 0);
        Check.due("at once: it did not count yet", x.well(1, 2), 25);
        x.tide(30, 1);
        Check.due("at once: it draws", x.well(0, 2), 20);
        Check.due("at once: it counts", x.well(1, 2), 23);
        together();
    }

    /** Two beside each other turn in one tide, whichever came first. */
    private static void together() {
        for (int first = 3; first <= 4; first++) {
            SaltWedge x = new SaltWedge();
            x.set(1, 0);
            x.set(2, 60);
            x.sink(first, 25);
            x.sink(7 - first, 25);
            x.tide(30, 1);
            Check.due("together: no cone, no salt", x.count(6), 0);
            x.fillIn(1);
            x.tide(30, 1);
            x.sink(8, 30);
            x.setRate(0, 24);
            x.tide(30, 1);
            x.setRate(1, 29);
            Check.due("together: salt", x.count(6), 25 + 24 + 30);
            x.tide(30, 1);
            Check.due("together: both turn", x.count(5), 2);
            Check.due("together: salt of both", x.count(6), 25 + 24 + 24 + 30 + 29);
        }
    }
}
