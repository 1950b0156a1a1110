/** Promises 17 to 26: what is told. */
public final class ToldTest {
    public static void main(String[] args) {
        cell();
        well();
        reach();
        mark();
        stopCell();
        reason();
        restsIn();
        leastFlow();
        bestSill();
        count();
        nothingIsChanged();
        Check.end();
    }

    /** Wells of which one rests, sills, a wedge of 20 cells, a snapshot, a stop. */
    private static void some(SaltWedge x) {
        x.sink(1, 30);
        x.sink(5, 4);
        x.sink(6, 9);
        x.build(9, 8);
        x.tide(30, 5);
        x.keep();
        Check.perform(x, "t0;s3=60");
        x.dig(30, 11);
    }

    /** Promise 17. */
    private static void cell() {
        SaltWedge x = new SaltWedge();
        x.dig(7, 33);
        x.build(7, 3);
        x.sink(30, 4);
        x.sink(7, 4);
        x.tide(0, 2);
        x.tide(-30, 1);
        x.tide(0, 1);
        int[] wants = {33, 3, 0, 1, 0};
        for (int what = 0; what < wants.length; what++) {
            Check.due("cell(7, " + what + ")", x.cell(7, what), wants[what]);
        }
        int[] below = {20, 0, 4, SaltWedge.NONE, 3};
        for (int what = 0; what < below.length; what++) {
            Check.due("cell(6, " + what + ")", x.cell(6, what), below[what]);
        }
        Check.due("cell(30, 3)", x.cell(30, 3), 0);
        Check.refused("cell(-1, 0)", ToldTest::some, y -> y.cell(-1, 0), SaltWedge.UNKNOWN);
        Check.refused("cell(40, 5)", ToldTest::some, y -> y.cell(40, 5), SaltWedge.UNKNOWN);
        Check.refused("cell(0, -1)", ToldTest::some, y -> y.cell(0, -1), SaltWedge.BAD_VALUE);
        Check.refused("cell(39, 5)", ToldTest::some, y -> y.cell(39, 5), SaltWedge.BAD_VALUE);
    }

    /** Promise 18. */
    private static void well() {
        SaltWedge x = new SaltWedge();
        some(x);
        int[][] wants = {{1, 30, 56, 1, 0, 90, 1}, {5, 4, 0, 0, 0, 20, 0}, {6, 9, 0, 0, 5, 45, 0}};
        for (int number = 0; number < 3; number++) {
            for (int what = 0; what < 7; what++) {
                Check.due("well(" + number + ", " + what + ")", x.well(number, what), wants[number][what]);
            }
        }
        Check.refused("well(-1, 0)", ToldTest::some, y -> y.well(-1, 0), SaltWedge.UNKNOWN);
        Check.refused("well(3, 7)", ToldTest::some, y -> y.well(3, 7), SaltWedge.UNKNOWN);
        Check.refused("well(0, -1)", ToldTest::some, y -> y.well(0, -1), SaltWedge.BAD_VALUE);
        Check.refused("well(2, 7)", ToldTest::some, y -> y.well(2, 7), SaltWedge.BAD_VALUE);
    }

    /** Promise 19. */
    private static void reach() {
        SaltWedge x = new SaltWedge();
        Check.due("reach of nothing", x.reach(), SaltWedge.NONE);
        x.tide(-9, 1);
        Check.due("reach of the cell 0", x.reach(), 0);
        x.tide(30, 2);
        Check.due("reach", x.reach(), 19);
        x.build(3, 20);
        x.tide(30, 1);
        Check.due("reach, with less wedge farther down", x.reach(), 14);
        x.tide(30, 1);
        Check.due("reach, behind a sill", x.reach(), 2);
        x.build(3, 0);
        x.set(1, 0);
        x.tide(0, 1);
        Check.due("reach of the cell 39", x.reach(), 39);
        x.tide(-30, 99);
        Check.due("reach of nothing any more", x.reach(), SaltWedge.NONE);
    }

    /** Promise 20. */
    private static void mark() {
        SaltWedge x = new SaltWedge();
        x.set(0, 60);
        x.set(1, 3);
        x.dig(2, 9);
        x.dig(3, 60);
        x.build(4, 3);
        x.build(5, 0);
        x.dig(0, 60);
        x.dig(1, 60);
        int[] marks = {60, 57, 9, 6, 0, 0};
        for (int cell = 0; cell < marks.length; cell++) {
            Check.due("mark(" + cell + ", 30)", x.mark(cell, 30), marks[cell]);
        }
        x.build(4, 2);
        Check.due("mark above the sill", x.mark(4, 30), 3);
        Check.due("mark that ran out", x.mark(5, 30), 0);
        Check.due("mark(0, -30)", x.mark(0, -30), 20);
        Check.due("mark(39, 0)", x.mark(39, 0), 0);
        x.flow(80);
        Check.due("mark(0, 20), no push", x.mark(0, 20), 0);
        Check.due("mark(0, 21)", x.mark(0, 21), 1);
        Check.due("mark(0, -30), less than none", x.mark(0, -30), 0);
        x.set(1, 0);
        x.build(4, 0);
        Check.due("mark(39, 30) of a wedge without end", x.mark(39, 30), 9);
        Check.due("a sill is held against what is not bounded yet", sillAsHighAsTheDepth().mark(1, 0), 10);
        Check.refused("mark(-1, 0)", ToldTest::some, y -> y.mark(-1, 0), SaltWedge.UNKNOWN);
        Check.refused("mark(40, 31)", ToldTest::some, y -> y.mark(40, 31), SaltWedge.UNKNOWN);
        Check.refused("mark(0, -31)", ToldTest::some, y -> y.mark(0, -31), SaltWedge.BAD_VALUE);
        Check.refused("mark(0, 31)", ToldTest::some, y -> y.mark(0, 31), SaltWedge.BAD_VALUE);
    }

    /** The mark would be 19 in the cell 1, of which the depth and the sill are 10. */
    private static SaltWedge sillAsHighAsTheDepth() {
        SaltWedge x = new SaltWedge();
        x.flow(0);
        x.dig(1, 10);
        x.build(1, 10);
        return x;
    }

    /** Promise 21. */
    private static void stopCell() {
        SaltWedge x = new SaltWedge();
        Check.due("stopCell(0)", x.stopCell(0), 10);
        Check.due("stopCell(30)", x.stopCell(30), 20);
        Check.due("stopCell(-9)", x.stopCell(-9), 1);
        Check.due("stopCell(-10)", x.stopCell(-10), 0);
        Check.due("stopCell(-30)", x.stopCell(-30), 0);
        x.build(6, 4);
        Check.due("a sill as high as the mark", x.stopCell(0), 6);
        Check.due("a sill lower than the mark", x.stopCell(1), 11);
        x.set(1, 0);
        Check.due("a sill lower than a wedge without end", x.stopCell(0), SaltWedge.NONE);
        Check.due("a wedge of 1 without end", x.stopCell(-9), 6);
        x.build(39, 20);
        Check.due("the last cell", x.stopCell(30), 39);
        Check.due("heights do not count", x.tide(30, 99), 39);
        Check.due("the last cell, behind tides", x.stopCell(30), 39);
        Check.refused("stopCell(-31)", ToldTest::some, y -> y.stopCell(-31), SaltWedge.BAD_VALUE);
        Check.refused("stopCell(31)", ToldTest::some, y -> y.stopCell(31), SaltWedge.BAD_VALUE);
    }

    /** Promise 22. */
    private static void reason() {
        SaltWedge x = new SaltWedge();
        Check.due("reason(0, 0)", x.reason(0, 0), 0);
        Check.due("reason(9, 0)", x.reason(9, 0), 0);
        Check.due("reason(10, 0)", x.reason(10, 0), 3);
        Check.due("reason(39, 0)", x.reason(39, 0), 3);
        Check.due("reason(0, -9)", x.reason(0, -9), 0);
        Check.due("reason(0, -10)", x.reason(0, -10), 1);
        Check.due("reason(39, -30)", x.reason(39, -30), 1);
        Check.due("reason(1, -9), a push of 1", x.reason(1, -9), 3);
        x.build(6, 4);
        Check.due("reason below the sill", x.reason(5, 0), 0);
        Check.due("reason at the sill", x.reason(6, 0), 2);
        Check.due("reason farther up than the sill", x.reason(8, 0), 2);
        Check.due("reason over the sill", x.reason(6, 1), 0);
        Check.due("reason where it ran out behind the sill", x.reason(11, 1), 3);
        Check.due("reason where it ran out before the sill", x.reason(6, -5), 3);
        Check.due("reason where it ran out at the sill", x.reason(6, -4), 3);
        Check.due("reason where 1 is left at the sill", x.reason(6, -3), 2);
        x.build(0, 20);
        Check.due("reason of a sill in the cell 0", x.reason(0, 10), 2);
        Check.due("reason of a sill in the cell 0, without a push", x.reason(0, -10), 1);
        x.set(1, 9);
        x.build(0, 0);
        x.build(6, 0);
        Check.due("reason of a steep one", x.reason(2, 0), 3);
        Check.refused("reason(-1, 0)", ToldTest::some, y -> y.reason(-1, 0), SaltWedge.UNKNOWN);
        Check.refused("reason(40, 31)", ToldTest::some, y -> y.reason(40, 31), SaltWedge.UNKNOWN);
        Check.refused("reason(0, -31)", ToldTest::some, y -> y.reason(0, -31), SaltWedge.BAD_VALUE);
        Check.refused("reason(0, 31)", ToldTest::some, y -> y.reason(0, 31), SaltWedge.BAD_VALUE);
    }

    /** Promise 23. */
    private static void restsIn() {
        SaltWedge x = new SaltWedge();
        x.sink(0, 30);
        Check.due("restsIn(0, 0)", x.restsIn(0, 0), 3);
        Check.due("restsIn(0, 30)", x.restsIn(0, 30), 3);
        Check.due("restsIn(0, -30)", x.restsIn(0, -30), 5);
        x.setRate(0, 11);
        x.set(2, 60);
        Check.due("1 in each tide", x.restsIn(0, 0), 50);
        x.setRate(0, 10);
        Check.due("nothing in each tide", x.restsIn(0, 0), SaltWedge.NONE);
        x.sink(1, 1);
        x.setRate(0, 12);
        Check.due("shared", x.restsIn(0, 0), 50);
        x.tide(0, 7);
        Check.due("shared, 7 of it behind it", x.restsIn(0, 0), 43);
        x.tide(0, 42);
        Check.due("shared, the last one", x.restsIn(0, 0), 1);
        Check.due("restsIn does not let it rest", x.well(0, 3), 0);
        x.tide(0, 1);
        Check.due("it rests now", x.restsIn(0, 0), SaltWedge.NOT_POSSIBLE);
        Check.due("the other one", x.restsIn(1, 0), SaltWedge.NONE);
        slowRests();
        slowestRest();
        Check.refused("restsIn(-1, 0)", ToldTest::some, y -> y.restsIn(-1, 0), SaltWedge.UNKNOWN);
        Check.refused("restsIn(3, 31)", ToldTest::some, y -> y.restsIn(3, 31), SaltWedge.UNKNOWN);
        Check.refused("restsIn(0, -31)", ToldTest::some, y -> y.restsIn(0, -31), SaltWedge.BAD_VALUE);
        Check.refused("restsIn(0, 31)", ToldTest::some, y -> y.restsIn(0, 31), SaltWedge.BAD_VALUE);
        Check.refused("restsIn(0, 0)", ToldTest::some, y -> y.restsIn(0, 0), SaltWedge.NOT_POSSIBLE);
    }

    /** A well that gets salt only while its neighbour rests, whole rests long, up to 300 tides. */
    private static void slowRests() {
        for (int other = 1; other <= 30; other++) {
            for (int rate = 1; rate <= 30; rate++) {
                SaltWedge x = new SaltWedge();
                x.set(1, 0);
                x.sink(1, rate);
                x.sink(2, other);
                slowRest(x, "neighbours of " + rate + " and " + other);
            }
        }
    }

    /** It rests with the 301st tide, of which the first one brings no well any salt. */
    private static void slowestRest() {
        SaltWedge x = new SaltWedge();
        x.set(1, 0);
        x.set(2, 10);
        x.sink(1, 2);
        x.sink(0, 3);
        x.sink(2, 5);
        Check.due("the 301st tide", x.restsIn(0, 30), SaltWedge.NONE);
        x.tide(30, 1);
        Check.due("the 300th tide", x.restsIn(0, 30), 300);
        x.tide(30, 99);
        Check.due("the 201st tide", x.restsIn(0, 30), 201);
    }

    private static void slowRest(SaltWedge x, String what) {
        int told = x.restsIn(0, 30);
        int seen = SaltWedge.NONE;
        for (int number = 1; number <= 300 && seen == SaltWedge.NONE; number++) {
            x.tide(30, 1);
            if (x.well(0, 3) == 1) {
                seen = number;
            }
        }
        Check.due(what + ": restsIn(0, 30)", told, seen);
    }

    /** Promise 24. */
    private static void leastFlow() {
        SaltWedge x = new SaltWedge();
        Check.due("leastFlow(0, 0)", x.leastFlow(0, 0), 20);
        Check.due("leastFlow(0, 30)", x.leastFlow(0, 30), 50);
        Check.due("leastFlow(19, 0)", x.leastFlow(19, 0), 1);
        Check.due("leastFlow(20, 0)", x.leastFlow(20, 0), 0);
        Check.due("leastFlow(39, 30), the depth keeps it out", x.leastFlow(39, 30), 0);
        Check.due("leastFlow(19, 30)", x.leastFlow(19, 30), 31);
        Check.due("leastFlow(0, -30)", x.leastFlow(0, -30), 0);
        x.flow(77);
        Check.due("leastFlow is the same with another flow", x.leastFlow(0, 0), 20);
        x.build(4, 9);
        Check.due("leastFlow(10, 0), the sill", x.leastFlow(10, 0), 7);
        Check.due("leastFlow(3, 0), below the sill", x.leastFlow(3, 0), 17);
        x.build(4, 0);
        x.set(0, 60);
        Check.due("the greatest of all", x.leastFlow(0, 30), 90);
        x.set(1, 0);
        Check.due("the greatest of all, in the last cell", x.leastFlow(39, 30), 90);
        Check.due("leastFlow sets no flow", x.count(1), 77);
        Check.refused("leastFlow(-1, 0)", ToldTest::some, y -> y.leastFlow(-1, 0), SaltWedge.UNKNOWN);
        Check.refused("leastFlow(40, 31)", ToldTest::some, y -> y.leastFlow(40, 31), SaltWedge.UNKNOWN);
        Check.refused("leastFlow(0, -31)", ToldTest::some, y -> y.leastFlow(0, -31), SaltWedge.BAD_VALUE);
        Check.refused("leastFlow(0, 31)", ToldTest::some, y -> y.leastFlow(0, 31), SaltWedge.BAD_VALUE);
    }

    /** Promise 25. */
    private static void bestSill() {
        SaltWedge x = new SaltWedge();
        Check.due("bestSill(10, 0)", x.bestSill(10, 0), 0);
        Check.due("bestSill(9, 0)", x.bestSill(9, 0), 1);
        Check.due("bestSill(1, 0)", x.bestSill(1, 0), 9);
        Check.due("bestSill(1, -9)", x.bestSill(1, -9), 0);
        Check.due("bestSill(1, -10), without a push", x.bestSill(1, -10), SaltWedge.NONE);
        Check.due("bestSill(21, 0), deeper than all", x.bestSill(21, 0), SaltWedge.NONE);
        Check.due("bestSill(20, 30)", x.bestSill(20, 30), 1);
        Check.due("bestSill(20, 10)", x.bestSill(20, 10), 0);
        x.dig(3, 30);
        Check.due("bestSill(21, 0), one cell is as deep", x.bestSill(21, 0), 3);
        x.dig(7, 30);
        Check.due("bestSill(30, 0), of two the lowest", x.bestSill(30, 0), 3);
        x.build(3, 5);
        Check.due("a cell with a lower sill", x.bestSill(8, 0), 2);
        Check.due("a cell with a lower sill, in it", x.bestSill(7, 0), 3);
        x.build(0, 9);
        Check.due("a cell with a sill as high", x.bestSill(9, 0), 1);
        Check.due("a cell with a sill lower by 1", x.bestSill(10, 0), 0);
        x.build(1, 9);
        Check.due("where a sill stops it", x.bestSill(9, 0), SaltWedge.NONE);
        bestSillOfWedgeWithoutEnd();
        Check.refused("bestSill(0, 0)", ToldTest::some, y -> y.bestSill(0, 0), SaltWedge.BAD_VALUE);
        Check.refused("bestSill(0, 31)", ToldTest::some, y -> y.bestSill(0, 31), SaltWedge.BAD_VALUE);
        Check.refused("bestSill(61, 0)", ToldTest::some, y -> y.bestSill(61, 0), SaltWedge.BAD_VALUE);
        Check.refused("bestSill(5, -31)", ToldTest::some, y -> y.bestSill(5, -31), SaltWedge.BAD_VALUE);
        Check.refused("bestSill(5, 31)", ToldTest::some, y -> y.bestSill(5, 31), SaltWedge.BAD_VALUE);
    }

    private static void bestSillOfWedgeWithoutEnd() {
        SaltWedge x = new SaltWedge();
        x.set(1, 0);
        Check.due("without end: bestSill(9, 0)", x.bestSill(9, 0), SaltWedge.NONE);
        x.dig(39, 60);
        Check.due("without end: bestSill(60, 0)", x.bestSill(60, 0), 39);
        x.dig(38, 5);
        Check.due("without end: bestSill(5, 0)", x.bestSill(5, 0), 39);
        Check.due("without end: bestSill(10, 0)", x.bestSill(10, 0), 0);
        Check.due("without end: bestSill(4, 0)", x.bestSill(4, 0), SaltWedge.NONE);
        x.dig(38, 4);
        Check.due("without end: the last cell has 4", x.bestSill(4, 0), 39);
        Check.due("bestSill builds nothing", x.cell(39, 1), 0);
    }

    /** Promise 26. */
    private static void count() {
        SaltWedge x = new SaltWedge();
        some(x);
        int[] wants = {5, 10, 20, 210, 3, 1, 56, 155, 19, 20, 1, 5, 4, 8};
        for (int what = 0; what < wants.length; what++) {
            Check.due("count(" + what + ")", x.count(what), wants[what]);
        }
        Check.refused("count(-1)", ToldTest::some, y -> y.count(-1), SaltWedge.BAD_VALUE);
        Check.refused("count(14)", ToldTest::some, y -> y.count(14), SaltWedge.BAD_VALUE);
        Check.refused("count(MAX)", ToldTest::some, y -> y.count(Integer.MAX_VALUE), SaltWedge.BAD_VALUE);
    }

    /** What is told is no act and changes nothing. */
    private static void nothingIsChanged() {
        Check.Call[] calls = {y -> y.cell(3, 2), y -> y.well(0, 2), SaltWedge::reach, y -> y.mark(0, 30),
            y -> y.stopCell(30), y -> y.reason(39, 0), y -> y.restsIn(2, 30), y -> y.leastFlow(0, 30),
            y -> y.bestSill(19, 30), y -> y.count(3), y -> y.stopped(0)};
        for (int number = 0; number < calls.length; number++) {
            Check.Call call = calls[number];
            SaltWedge x = new SaltWedge();
            some(x);
            Check.refused("what is told, call " + number, ToldTest::some, call, call.on(x));
        }
    }
}
