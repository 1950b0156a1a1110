/** Promises 20 to 25, what would be: mark, stopCell, reason, restsIn, leastFlow, bestSill. */
public final class SoughtTest {
    public static void main(String[] args) {
        mark();
        stopCell();
        reason();
        reasonErrors();
        restsIn();
        restsInErrors();
        leastFlow();
        bestSill();
        bestSillErrors();
        Check.end();
    }

    private static void mark() {
        Doc.section("Promise 20: mark");
        Doc.says("`int mark(int cell, int rise)`: Tells the mark of a cell in a tide that came now.");
        SaltWedge x = new SaltWedge();
        x.set(0, 60);
        x.set(1, 3);
        x.dig(0, 60);
        x.dig(1, 60);
        x.dig(2, 9);
        x.dig(3, 60);
        x.build(4, 3);
        int[] marks = {60, 57, 9, 6, 0, 0};
        for (int cell = 0; cell < marks.length; cell++) {
            Check.due("mark(" + cell + ", 30)", x.mark(cell, 30), marks[cell]);
        }
        x.build(4, 2);
        Check.due("above the sill", x.mark(4, 30), 3);
        Check.due("where it ran out", x.mark(5, 30), 0);
        SaltWedge y = new SaltWedge();
        Check.due("before any tide", y.mark(3, 0), 7);
        y.tide(30, 9);
        Check.due("the heights do not count", y.mark(3, 0), 7);
        y.flow(11);
        Check.due("what was set counts at once", y.mark(3, 0), 6);

        Doc.says("- `cell`: 0 to 39");
        Check.tells("mark(0, 0)", z -> z.mark(0, 0), 10);
        Check.tells("mark(39, 0)", z -> z.mark(39, 0), 0);
        Check.refusedBeyond("mark(.., 0)", (z, cell) -> z.mark(cell, 0), 0, 39, SaltWedge.UNKNOWN);

        Doc.says("- `rise`: -30 to 30");
        Check.tells("mark(3, 30)", z -> z.mark(3, 30), 17);
        Check.tells("mark(3, -30)", z -> z.mark(3, -30), 0);
        Check.refusedBeyond("mark(3, ..)", (z, rise) -> z.mark(3, rise), -30, 30, SaltWedge.BAD_VALUE);

        Doc.says("Returns the mark;");
        Check.tells("mark(9, 7)", z -> z.mark(9, 7), 0);
        Check.tells("mark(9, 8)", z -> z.mark(9, 8), 9);

        Doc.says("UNKNOWN;");
        Check.tells("mark(40, 31)", z -> z.mark(40, 31), SaltWedge.UNKNOWN);

        Doc.says("BAD_VALUE.");
        Check.tells("mark(39, 31)", z -> z.mark(39, 31), SaltWedge.BAD_VALUE);
    }

    private static void stopCell() {
        Doc.section("Promise 21: stopCell");
        Doc.says("`int stopCell(int rise)`: Tells what stops a tide that came now.");
        SaltWedge x = new SaltWedge();
        Check.due("before any tide", x.stopCell(0), 10);
        x.tide(30, 99);
        Check.due("the heights do not count", x.stopCell(0), 10);
        x.build(6, 4);
        Check.due("a sill as high as the mark", x.stopCell(0), 6);
        Check.due("a sill lower than the mark", x.stopCell(1), 11);

        Doc.says("- `rise`: -30 to 30");
        Check.tells("stopCell(30)", y -> y.stopCell(30), 20);
        Check.tells("stopCell(-30)", y -> y.stopCell(-30), 0);

        Doc.says("Returns the lowest cell with the mark 0;");
        SaltWedge y = new SaltWedge();
        for (int rise = -30; rise <= 30; rise++) {
            Check.due("stopCell(" + rise + ")", y.stopCell(rise), Math.min(20, Math.max(0, 10 + rise)));
        }
        y.set(1, 0);
        y.build(39, 20);
        Check.due("the last cell", y.stopCell(30), 39);

        Doc.says("BAD_VALUE;");
        Check.refusedBeyond("stopCell(..)", SaltWedge::stopCell, -30, 30, SaltWedge.BAD_VALUE);
        Check.refused("stopCell(31) of a tide without end", z -> z.set(1, 0), z -> z.stopCell(31), SaltWedge.BAD_VALUE);

        Doc.says("NONE if no cell has it.");
        y.build(39, 19);
        Check.due("above the last sill", y.stopCell(30), SaltWedge.NONE);
        Check.refused("a mark of 1 in all cells", z -> z.set(1, 0), z -> z.stopCell(-9), SaltWedge.NONE);
        Check.refused("a push of 0", z -> z.set(1, 0), z -> z.stopCell(-10), 0);
    }

    private static void reason() {
        Doc.section("Promise 22: reason");
        Doc.says("`int reason(int cell, int rise)`: Tells why the mark of a cell is 0 in a tide that came now.");
        SaltWedge x = new SaltWedge();
        Check.due("before any tide", x.reason(10, 0), 3);
        x.tide(30, 9);
        Check.due("the heights do not count", x.reason(10, 0), 3);

        Doc.says("- `cell`: 0 to 39");
        Check.tells("reason(0, 0)", y -> y.reason(0, 0), 0);
        Check.tells("reason(39, 0)", y -> y.reason(39, 0), 2);
        Check.refusedBeyond("reason(.., 0)", (y, cell) -> y.reason(cell, 0), 0, 39, SaltWedge.UNKNOWN);

        Doc.says("- `rise`: -30 to 30");
        Check.tells("reason(39, 30)", y -> y.reason(39, 30), 3);
        Check.tells("reason(39, -30)", y -> y.reason(39, -30), 1);
        Check.refusedBeyond("reason(39, ..)", (y, rise) -> y.reason(39, rise), -30, 30, SaltWedge.BAD_VALUE);

        Doc.says("Returns 0 if it is not;");
        Check.due("a mark of 10", x.reason(0, 0), 0);
        Check.due("a mark of 1", x.reason(9, 0), 0);
        Check.due("a push of 1", x.reason(0, -9), 0);

        Doc.says("1 if the push is 0 or less;");
        Check.due("a push of 0", x.reason(0, -10), 1);
        Check.due("a push of 0, the last cell", x.reason(39, -10), 1);
        Check.due("a push of -20", x.reason(5, -30), 1);
        Check.due("a push of 1", x.reason(1, -9), 3);
        x.build(0, 20);
        Check.due("a push of 0 and a sill", x.reason(0, -10), 1);
        Check.due("a push of 1 and a sill", x.reason(0, -9), 2);
    }

    private static void reasonErrors() {
        Doc.says("2 if a sill stopped it, here or farther down, with a mark above 0 otherwise;");
        SaltWedge x = new SaltWedge();
        x.build(6, 4);
        Check.due("below the sill", x.reason(5, 0), 0);
        Check.due("a mark that is just the sill", x.reason(6, 0), 2);
        Check.due("farther up", x.reason(8, 0), 2);
        Check.due("farther up, the last cell", x.reason(39, 0), 2);
        Check.due("over the sill", x.reason(6, 1), 0);
        Check.due("a mark of 1 otherwise", x.reason(6, -3), 2);
        x.build(0, 20);
        Check.due("a sill in the cell 0", x.reason(0, 10), 2);
        Check.due("a sill farther down", x.reason(6, 10), 2);
        Check.due("over the sill in the cell 0", x.reason(0, 11), 0);

        Doc.says("3 if it ran out;");
        x.build(0, 0);
        Check.due("a mark of 0 otherwise", x.reason(6, -4), 3);
        Check.due("before the sill", x.reason(5, -5), 3);
        Check.due("before the sill, at it", x.reason(6, -5), 3);
        Check.due("behind the sill", x.reason(11, 1), 3);
        Check.due("behind the sill, the last cell", x.reason(39, 1), 3);
        x.build(6, 0);
        x.set(1, 9);
        Check.due("of a steep one, a mark of 1", x.reason(1, 0), 0);
        Check.due("of a steep one, less than 0", x.reason(2, 0), 3);
        Check.due("of a steep one, just 0", x.reason(1, -1), 3);

        Doc.says("UNKNOWN;");
        Check.tells("reason(40, 31)", y -> y.reason(40, 31), SaltWedge.UNKNOWN);
        Check.tells("reason(-1, -31)", y -> y.reason(-1, -31), SaltWedge.UNKNOWN);

        Doc.says("BAD_VALUE.");
        Check.tells("reason(0, 31)", y -> y.reason(0, 31), SaltWedge.BAD_VALUE);
    }

    private static void restsIn() {
        Doc.section("Promise 23: restsIn");
        Doc.says("`int restsIn(int well, int rise)`: Tells with which of tides that come, one like the other, a well "
            + "begins to rest.");
        for (int other = 1; other <= 30; other++) {
            for (int rate = 1; rate <= 30; rate++) {
                SaltWedge x = new SaltWedge();
                x.set(1, 0);
                x.sink(1, rate);
                x.sink(2, other);
                restsThen("neighbours of " + rate + " and " + other, x, x.restsIn(0, 30));
            }
        }

        Doc.says("- `well`: a well");
        Check.tells("restsIn(3, 30)", y -> y.restsIn(3, 30), 13);
        Check.refused("restsIn(5, 30) of six", y -> {
            for (int number = 0; number < 6; number++) {
                y.sink(3 * number, 30);
            }
        }, y -> y.restsIn(5, 30), 4);
        Check.refusedBeyond("restsIn(.., 0)", (y, well) -> y.restsIn(well, 0), 0, 3, SaltWedge.UNKNOWN);

        Doc.says("- `rise`: -30 to 30");
        Check.tells("restsIn(2, 30)", y -> y.restsIn(2, 30), SaltWedge.NONE);
        Check.tells("restsIn(2, -30)", y -> y.restsIn(2, -30), SaltWedge.NONE);
        Check.refusedBeyond("restsIn(2, ..)", (y, rise) -> y.restsIn(2, rise), -30, 30, SaltWedge.BAD_VALUE);
    }

    /** The well 0 begins to rest with the tide that was told, and not before. */
    private static void restsThen(String what, SaltWedge x, int told) {
        Check.hold(what + ": " + told + " is an answer", told == SaltWedge.NONE || told >= 1 && told <= 300);
        int before = told == SaltWedge.NONE ? 300 : told - 1;
        for (int left = before; left > 0; left -= 99) {
            x.tide(30, Math.min(left, 99));
        }
        Check.due(what + ": behind " + before + " tides: turned", x.well(0, 6), 0);
        x.tide(30, 1);
        Check.due(what + ": and one more: rests", told == SaltWedge.NONE ? 0 : 1 - x.well(0, 3), 0);
    }

    private static void restsInErrors() {
        Doc.says("Returns the number of the tide, from 1;");
        SaltWedge x = new SaltWedge();
        x.set(2, 60);
        x.sink(0, 11);
        Check.due("1 in each tide", x.restsIn(0, 0), 50);
        x.tide(0, 7);
        Check.due("1 in each tide, behind seven", x.restsIn(0, 0), 43);
        x.tide(0, 42);
        Check.due("with the next one", x.restsIn(0, 0), 1);
        Check.due("it does not rest now", x.well(0, 3), 0);

        Doc.says("UNKNOWN;");
        Check.tells("restsIn(4, 31)", y -> y.restsIn(4, 31), SaltWedge.UNKNOWN);
        Check.tells("restsIn(-1, -31)", y -> y.restsIn(-1, -31), SaltWedge.UNKNOWN);
        Check.refused("restsIn(0, 0) of none", Check::fresh, y -> y.restsIn(0, 0), SaltWedge.UNKNOWN);

        Doc.says("BAD_VALUE;");
        Check.tells("restsIn(0, 31) of one that rests", y -> y.restsIn(0, 31), SaltWedge.BAD_VALUE);
        Check.tells("restsIn(0, -31) of one that rests", y -> y.restsIn(0, -31), SaltWedge.BAD_VALUE);

        Doc.says("NOT_POSSIBLE if it rests now;");
        Check.tells("restsIn(0, 30)", y -> y.restsIn(0, 30), SaltWedge.NOT_POSSIBLE);
        Check.tells("restsIn(0, -30)", y -> y.restsIn(0, -30), SaltWedge.NOT_POSSIBLE);
        x.tide(0, 1);
        Check.due("with 50 of salt", x.restsIn(0, 0), SaltWedge.NOT_POSSIBLE);
        x.tide(0, 24);
        Check.due("with 2 of salt", x.restsIn(0, 0), SaltWedge.NOT_POSSIBLE);
        x.tide(0, 1);
        Check.due("when it has rested", x.restsIn(0, 0), 50);

        Doc.says("NONE if it does not within 300.");
        Check.refused("1 too little in each tide", y -> y.sink(0, 10), y -> y.restsIn(0, 0), SaltWedge.NONE);
        Check.refused("the 301st tide", SoughtTest::slow, y -> y.restsIn(0, 30), SaltWedge.NONE);
        Check.refused("the 300th tide", y -> {
            slow(y);
            y.tide(30, 1);
        }, y -> y.restsIn(0, 30), 300);
        SaltWedge y = Check.made(SoughtTest::slow);
        y.tide(30, 99);
        Check.due("the 202nd tide", y.restsIn(0, 30), 202);
        y.tide(30, 99);
        y.tide(30, 99);
        Check.due("the 4th tide", y.restsIn(0, 30), 4);
        y.tide(30, 3);
        Check.due("the next tide", y.restsIn(0, 30), 1);
    }

    /** The well 0 gets salt only while its neighbour rests, and is salt behind 301 tides. */
    private static void slow(SaltWedge x) {
        x.set(1, 0);
        x.set(2, 10);
        x.sink(1, 2);
        x.sink(0, 3);
        x.sink(2, 5);
    }

    private static void leastFlow() {
        Doc.section("Promise 24: leastFlow");
        Doc.says("`int leastFlow(int cell, int rise)`: Finds the least flow of the river with which the marks of a cell "
            + "and all farther up are 0 in a tide.");
        SaltWedge x = new SaltWedge();
        Check.due("in the cell 5", x.leastFlow(5, 0), 15);
        x.flow(15);
        Check.due("with that flow", x.mark(5, 0), 0);
        x.flow(14);
        Check.due("with 1 less", x.mark(5, 0), 1);
        x.flow(77);
        Check.due("it is the same whatever flows", x.leastFlow(5, 0), 15);
        x.build(4, 9);
        Check.due("farther up than a sill", x.leastFlow(10, 0), 7);
        Check.due("below the sill", x.leastFlow(3, 0), 17);
        Check.due("no flow is set", x.count(1), 77);

        Doc.says("- `cell`: 0 to 39");
        Check.tells("leastFlow(0, 0)", y -> y.leastFlow(0, 0), 20);
        Check.tells("leastFlow(39, 0)", y -> y.leastFlow(39, 0), 0);
        Check.refusedBeyond("leastFlow(.., 0)", (y, cell) -> y.leastFlow(cell, 0), 0, 39, SaltWedge.UNKNOWN);

        Doc.says("- `rise`: -30 to 30");
        Check.tells("leastFlow(1, 30)", y -> y.leastFlow(1, 30), 49);
        Check.tells("leastFlow(1, -30)", y -> y.leastFlow(1, -30), 0);
        Check.refusedBeyond("leastFlow(1, ..)", (y, rise) -> y.leastFlow(1, rise), -30, 30, SaltWedge.BAD_VALUE);

        Doc.says("Returns the flow;");
        SaltWedge z = new SaltWedge();
        Check.due("a flow of 1", z.leastFlow(19, 0), 1);
        Check.due("a flow of 0", z.leastFlow(20, 0), 0);
        Check.due("a flow of 31, as the depth holds it", z.leastFlow(19, 30), 31);
        Check.due("a flow of 0, as the depth holds it", z.leastFlow(39, 30), 0);

        Doc.says("UNKNOWN;");
        Check.tells("leastFlow(40, 31)", y -> y.leastFlow(40, 31), SaltWedge.UNKNOWN);
        Check.tells("leastFlow(-1, -31)", y -> y.leastFlow(-1, -31), SaltWedge.UNKNOWN);

        Doc.says("BAD_VALUE;");
        Check.tells("leastFlow(39, 31)", y -> y.leastFlow(39, 31), SaltWedge.BAD_VALUE);

        Doc.says("NONE if there is none up to 99.");
        z.set(0, 60);
        Check.due("the greatest push is kept out by 90", z.leastFlow(0, 30), 90);
        z.set(1, 0);
        Check.due("from the last cell too", z.leastFlow(39, 30), 90);
    }

    private static void bestSill() {
        Doc.section("Promise 25: bestSill");
        Doc.says("`int bestSill(int sill, int rise)`: Finds the cell in which a sill of some height would stop a tide "
            + "at the lowest place,");
        SaltWedge x = new SaltWedge();
        for (int sill = 1; sill <= 10; sill++) {
            Check.due("bestSill(" + sill + ", 0)", x.bestSill(sill, 0), 10 - sill);
        }
        Check.due("higher than the push", x.bestSill(20, 0), 0);
        Check.due("just the push", x.bestSill(20, 10), 0);
        Check.due("1 less than the push", x.bestSill(20, 11), 1);
        Check.due("a push above the depth", x.bestSill(20, 30), 1);
        Check.due("it builds nothing", x.cell(1, 1), 0);

        Doc.says("of several the lowest cell;");
        SaltWedge y = new SaltWedge();
        y.dig(3, 30);
        y.dig(7, 30);
        Check.due("of two deep ones", y.bestSill(30, 0), 3);
        y.set(1, 0);
        Check.due("of all cells", y.bestSill(10, 0), 0);

        Doc.says("only cells are looked at which have a lower sill, and a depth of at least that height.");
        Check.due("of just the depth", x.bestSill(20, 0), 0);
        Check.due("of 1 more", x.bestSill(21, 0), SaltWedge.NONE);
        x.dig(3, 21);
        Check.due("of just the depth of one", x.bestSill(21, 0), 3);
        x.build(3, 5);
        Check.due("a cell with a lower sill", x.bestSill(7, 0), 3);
        Check.due("a cell farther down", x.bestSill(8, 0), 2);
        x.build(0, 9);
        Check.due("a cell with a sill as high", x.bestSill(9, 0), 1);
        Check.due("a cell with a sill lower by 1", x.bestSill(10, 0), 0);
        x.dig(1, 8);
        Check.due("a cell less deep by 1, which bounds the next marks", x.bestSill(9, 0), 2);

        Doc.says("- `sill`: 1 to 60");
        Check.tells("bestSill(1, 0)", z -> z.bestSill(1, 0), SaltWedge.NONE);
        Check.tells("bestSill(60, 0)", z -> z.bestSill(60, 0), SaltWedge.NONE);
        Check.refused("bestSill(60, 0) of a deep cell", z -> z.dig(4, 60), z -> z.bestSill(60, 0), 4);
        Check.refused("bestSill(1, 0)", Check::fresh, z -> z.bestSill(1, 0), 9);

        Doc.says("- `rise`: -30 to 30");
        Check.tells("bestSill(7, 30)", z -> z.bestSill(7, 30), 13);
        Check.tells("bestSill(7, -30)", z -> z.bestSill(7, -30), SaltWedge.NONE);

        Doc.says("Returns the cell;");
        Check.tells("bestSill(9, 5)", z -> z.bestSill(9, 5), 6);
    }

    private static void bestSillErrors() {
        Doc.says("BAD_VALUE;");
        Check.refusedBeyond("bestSill(.., 0)", (x, sill) -> x.bestSill(sill, 0), 1, 60, SaltWedge.BAD_VALUE);
        Check.refusedBeyond("bestSill(9, ..)", (x, rise) -> x.bestSill(9, rise), -30, 30, SaltWedge.BAD_VALUE);
        Check.tells("bestSill(0, -30)", x -> x.bestSill(0, -30), SaltWedge.BAD_VALUE);

        Doc.says("NONE if there is no such cell,");
        Check.refused("deeper than all", Check::fresh, x -> x.bestSill(21, 0), SaltWedge.NONE);
        Check.refused("all sills are as high", x -> {
            for (int cell = 0; cell < 40; cell++) {
                x.build(cell, 3);
            }
        }, x -> x.bestSill(3, 0), SaltWedge.NONE);

        Doc.says("or none of them makes stopCell() less (a tide that nothing stops counts as stopped farther than by "
            + "any cell).");
        SaltWedge x = new SaltWedge();
        Check.due("a push of 0", x.bestSill(20, -10), SaltWedge.NONE);
        Check.due("a push of 1", x.bestSill(20, -9), 0);
        x.build(1, 9);
        x.dig(0, 8);
        Check.due("where a sill stops it", x.bestSill(9, 0), SaltWedge.NONE);
        Check.due("where a sill stops it, one more there", x.bestSill(20, 0), SaltWedge.NONE);
        Check.due("farther down than that", x.bestSill(8, -2), 0);
        SaltWedge y = new SaltWedge();
        y.set(1, 0);
        Check.due("nothing stops it, nor would the sill", y.bestSill(9, 0), SaltWedge.NONE);
        y.dig(39, 60);
        Check.due("nothing stops it but the last cell", y.bestSill(60, 0), 39);
        y.dig(38, 5);
        Check.due("the mark is 5 in the last cell", y.bestSill(5, 0), 39);
        Check.due("a mark of 10 and one of 5", y.bestSill(10, 0), 0);
        Check.due("too low for the last cell", y.bestSill(4, 0), SaltWedge.NONE);
        y.build(39, 5);
        Check.due("the last cell stops it already", y.bestSill(60, 0), SaltWedge.NONE);
    }
}
