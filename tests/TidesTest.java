import java.util.Set;

/** The tides, and promise 9: tide. */
public final class TidesTest {
    public static void main(String[] args) {
        push();
        marks();
        marksAndSills();
        marksAndDepths();
        heights();
        wellsAndReach();
        tide();
        tideErrors();
        mostTides();
        Check.end();
    }

    private static void marksAre(String what, SaltWedge x, int rise, int... wants) {
        for (int cell = 0; cell < wants.length; cell++) {
            Check.due(what + ": mark(" + cell + ", " + rise + ")", x.mark(cell, rise), wants[cell]);
        }
    }

    private static void heightsAre(String what, SaltWedge x, int... wants) {
        for (int cell = 0; cell < wants.length; cell++) {
            Check.due(what + ": height of " + cell, x.cell(cell, 2), wants[cell]);
        }
    }

    private static void push() {
        Doc.section("TIDES");
        Doc.says("A tide has a rise, -30 to 30.");
        SaltWedge x = new SaltWedge();
        Check.due("tide(-30, 1)", x.tide(-30, 1), 0);
        Check.due("tide(30, 1)", x.tide(30, 1), 20);
        Check.due("tide(-31, 1)", x.tide(-31, 1), SaltWedge.BAD_VALUE);
        Check.due("tide(31, 1)", x.tide(31, 1), SaltWedge.BAD_VALUE);

        Doc.leaves("In a tide:");
        Doc.says("1. The push is the setting 0 (0 to 60; 20 at first) and the rise, less the flow of the river.");
        Check.due("at first: count(9)", x.count(9), 20);
        Check.due("20 and 7 less 10", x.mark(0, 7), 17);
        x.flow(3);
        Check.due("20 and 0 less 3", x.mark(0, 0), 17);
        Check.due("the least: set(0, 0)", x.set(0, 0), 20);
        Check.due("0 and 4 less 3", x.mark(0, 4), 1);
        Check.due("0 and 3 less 3", x.mark(0, 3), 0);
        Check.due("the most: set(0, 60)", x.set(0, 60), 0);
        Check.due("60 and -30 less 3, held by the depth", x.mark(0, -30), 20);
        Check.due("set(0, -1)", x.set(0, -1), SaltWedge.BAD_VALUE);
        Check.due("set(0, 61)", x.set(0, 61), SaltWedge.BAD_VALUE);
        x.dig(0, 60);
        Check.due("60 and -30 less 3", x.mark(0, -30), 27);
        x.flow(89);
        Check.due("60 and 30 less 89", x.mark(0, 30), 1);
        x.flow(90);
        Check.due("60 and 30 less 90", x.mark(0, 30), 0);
        x.flow(99);
        x.set(0, 0);
        Check.due("0 and -30 less 99", x.mark(0, -30), 0);
    }

    private static void marks() {
        Doc.says("2. From the cell 0 on: what the wedge would have in a cell, its mark, is, in the cell 0, the push;");
        SaltWedge x = new SaltWedge();
        Check.due("mark(0, 0)", x.mark(0, 0), 10);
        Check.due("mark(0, -9)", x.mark(0, -9), 1);
        Check.due("mark(0, -10), a push of 0", x.mark(0, -10), 0);
        Check.due("mark(0, 10), a push of just the depth", x.mark(0, 10), 20);
        x.set(1, 9);
        Check.due("the setting 1 takes nothing in the cell 0", x.mark(0, 0), 10);

        Doc.says("in each other one the mark of the cell below (towards the sea), less the setting 1 "
            + "(0 to 9; 1 at first).");
        marksAre("less 9", x, 10, 20, 11, 2, 0, 0);
        marksAre("less 9, just to 0", x, 8, 18, 9, 0, 0);
        Check.due("set(1, 10)", x.set(1, 10), SaltWedge.BAD_VALUE);
        Check.due("set(1, -1)", x.set(1, -1), SaltWedge.BAD_VALUE);
        x.set(1, 0);
        for (int cell = 0; cell < 40; cell++) {
            Check.due("less nothing: mark(" + cell + ", -9)", x.mark(cell, -9), 1);
        }
        SaltWedge y = new SaltWedge();
        Check.due("at first: count(10)", y.count(10), 1);
        marksAre("less 1", y, -6, 4, 3, 2, 1, 0, 0);
        y.set(0, 60);
        for (int cell = 0; cell < 40; cell++) {
            y.dig(cell, 60);
        }
        Check.due("less 1, the cell 39", y.mark(39, 0), 11);
    }

    private static void marksAndSills() {
        Doc.says("But if the mark is not above the sill of the cell, the mark is 0 in it and in all cells farther up.");
        SaltWedge x = new SaltWedge();
        x.build(4, 6);
        marksAre("a mark that is just the sill", x, 0, 10, 9, 8, 7, 0, 0, 0);
        marksAre("a mark above the sill goes over it undiminished", x, 1, 11, 10, 9, 8, 7, 6, 5);
        marksAre("a mark below the sill", x, -1, 9, 8, 7, 6, 0, 0, 0);
        Check.due("the last cell too", x.mark(39, 0), 0);
        x.set(1, 0);
        marksAre("farther up, though nothing is taken", x, -4, 6, 6, 6, 6, 0, 0, 0);
        Check.due("farther up, the last cell", x.mark(39, -4), 0);
        Check.due("over the sill, the last cell", x.mark(39, -3), 7);
        x.build(0, 10);
        marksAre("a push that is just the sill", x, 0, 0, 0, 0);
        x.build(0, 9);
        marksAre("a push above the sill", x, 0, 10, 10, 10);
        x.build(39, 10);
        Check.due("just the sill of the last cell", x.mark(39, 0), 0);
        Check.due("the cell below it", x.mark(38, 0), 10);
        SaltWedge y = new SaltWedge();
        y.build(2, 1);
        marksAre("a mark of 1 and a sill of 1", y, -7, 3, 2, 0, 0);
        marksAre("a mark of 0 and a sill of 0", y, -9, 1, 0, 0, 0);
    }

    private static void marksAndDepths() {
        Doc.says("A mark is at least 0, and at most the depth of the cell");
        SaltWedge x = new SaltWedge();
        x.dig(0, 12);
        Check.due("a push of 12, just the depth", x.mark(0, 2), 12);
        Check.due("a push of 13", x.mark(0, 3), 12);
        Check.due("a push of 40", x.mark(0, 30), 12);
        Check.due("a push of 0", x.mark(0, -10), 0);
        Check.due("a push of -1", x.mark(0, -11), 0);
        Check.due("a push of -20", x.mark(0, -30), 0);
        x.set(1, 9);
        Check.due("12 less 9", x.mark(1, 3), 3);
        Check.due("3 less 9", x.mark(2, 3), 0);

        Doc.says("(it is held against the sill first, and bounded by the depth then; the next mark is told from what "
            + "it is then).");
        SaltWedge y = new SaltWedge();
        y.dig(1, 10);
        y.build(1, 10);
        marksAre("10 of a depth and a sill of 10", y, 1, 11, 0, 0);
        marksAre("11 of a depth and a sill of 10", y, 2, 12, 10, 9, 8);
        marksAre("19 of a depth and a sill of 10", y, 10, 20, 10, 9, 8);
        y.dig(0, 8);
        y.dig(1, 30);
        marksAre("bounded by the depth of the cell below", y, 10, 8, 0, 0);
        y.build(1, 6);
        marksAre("bounded, and just above the sill", y, 10, 8, 7, 6);
    }

    private static void heights() {
        Doc.says("3. The height of the wedge in each cell goes to its mark: by the setting 2 (1 to 60; 5 at first) at "
            + "most, up or down.");
        SaltWedge x = new SaltWedge();
        Check.due("at first: count(11)", x.count(11), 5);
        x.tide(-4, 1);
        heightsAre("6, 5 and 4, up by 5 at most", x, 5, 5, 4, 3, 2, 1, 0, 0);
        x.tide(-4, 1);
        heightsAre("the mark is reached, and no more", x, 6, 5, 4, 3, 2, 1, 0, 0);
        x.tide(-4, 1);
        heightsAre("it stays", x, 6, 5, 4, 3, 2, 1, 0, 0);
        x.tide(-9, 1);
        heightsAre("down by 5 at most", x, 1, 0, 0, 0, 0, 0, 0, 0);
        x.tide(0, 2);
        x.tide(-6, 1);
        heightsAre("down to 4, 3 and 2, by 5 at most", x, 5, 4, 3, 2, 1, 0, 0, 0);
        x.undo();
        x.undo();
        x.set(2, 1);
        x.tide(0, 1);
        heightsAre("up by 1", x, 2, 1, 1, 1, 1, 1, 1, 1, 1, 1, 0);
        x.tide(-30, 1);
        heightsAre("down by 1", x, 1, 0, 0, 0, 0, 0, 0, 0, 0, 0, 0);
        SaltWedge y = new SaltWedge();
        y.set(0, 60);
        y.set(2, 60);
        y.dig(0, 60);
        y.tide(10, 1);
        heightsAre("up by 60", y, 60, 20, 19);
        y.flow(99);
        y.tide(0, 1);
        heightsAre("down by 60", y, 0, 0, 0);
        y.flow(0);
        y.set(2, 59);
        y.tide(0, 1);
        heightsAre("up by 59", y, 59, 20, 19);
        Check.due("set(2, 0)", y.set(2, 0), SaltWedge.BAD_VALUE);
        Check.due("set(2, 61)", y.set(2, 61), SaltWedge.BAD_VALUE);
    }

    private static void wellsAndReach() {
        Doc.says("4. Each well draws (see below).");
        SaltWedge x = new SaltWedge();
        x.sink(3, 4);
        x.sink(0, 16);
        x.tide(0, 1);
        Check.due("the first draws", x.well(0, 5), 4);
        Check.due("the other one draws", x.well(1, 5), 16);
        Check.due("it draws behind the heights", x.well(1, 2), 1);

        Doc.says("The wedge reaches as far as the greatest cell with a height above 0.");
        SaltWedge y = new SaltWedge();
        Check.due("no height at all", y.reach(), SaltWedge.NONE);
        y.tide(-9, 1);
        Check.due("a height of 1 in the cell 0", y.reach(), 0);
        y.tide(30, 2);
        Check.due("a height of 1 in the cell 19", y.cell(19, 2) * 100 + y.reach(), 119);
        y.build(3, 20);
        y.set(2, 9);
        y.tide(30, 1);
        Check.due("heights count, not marks", y.reach(), 10);
        y.build(3, 0);
        y.build(1, 20);
        y.dig(7, 60);
        y.set(1, 0);
        y.tide(-30, 99);
        Check.due("all heights are 0 again", y.reach(), SaltWedge.NONE);
    }

    private static void tide() {
        Doc.section("Promise 9: tide");
        Doc.says("`int tide(int rise, int times)`: Lets tides come, one like the other.");
        SaltWedge x = new SaltWedge();
        SaltWedge y = new SaltWedge();
        for (SaltWedge each : new SaltWedge[] {x, y}) {
            each.sink(2, 17);
            each.sink(3, 4);
            each.flow(4);
        }
        x.tide(7, 40);
        for (int number = 0; number < 40; number++) {
            y.tide(7, 1);
        }
        Check.same("40 tides, and 40 times one", Check.state(x), Check.state(y));
        Check.due("40 tides: count(0)", x.count(0), 40);
        for (int rise = -30; rise <= 30; rise++) {
            SaltWedge some = Check.made(Check::some);
            some.tide(rise, 3 + rise % 2);
            Set<String> changed = Check.changed(some);
            changed.removeIf(call -> call.matches("cell\\(\\d+, [24]\\)|count\\([0235678]\\)|well\\(\\d, [2-6]\\)"));
            Check.hold("tide(" + rise + ", ..) does not change " + changed, changed.isEmpty());
        }

        Doc.says("This is an act.");
        Check.act("tide(0, 1)", Check::some, z -> z.tide(0, 1), 15);
        Check.act("tide(30, 7), all of it at once", Check::some, z -> z.tide(30, 7), 20);
        Check.act("a tide without salt", Check::fresh, z -> z.tide(-30, 1), 0);

        Doc.says("- `rise`: -30 to 30");
        Check.act("tide(-30, 5)", Check::some, z -> z.tide(-30, 5), 0);
        Check.act("tide(30, 5)", Check::some, z -> z.tide(30, 5), 20);
        Check.refusedBeyond("tide(.., 1)", (z, rise) -> z.tide(rise, 1), -30, 30, SaltWedge.BAD_VALUE);

        Doc.says("- `times`: 1 to 99");
        Check.act("tide(9, 1)", Check::fresh, z -> z.tide(9, 1), 19);
        Check.act("tide(9, 99)", Check::fresh, z -> z.tide(9, 99), 19);
        Check.refusedBeyond("tide(0, ..)", (z, times) -> z.tide(0, times), 1, 99, SaltWedge.BAD_VALUE);
        SaltWedge many = new SaltWedge();
        many.tide(0, 99);
        Check.due("99 times: count(0)", many.count(0), 99);
        Check.due("99 times: cell(0, 4)", many.cell(0, 4), 99);
    }

    private static void tideErrors() {
        Doc.says("Returns how many cells have salt water then;");
        SaltWedge x = new SaltWedge();
        Check.due("tide(2, 1)", x.tide(2, 1), 12);
        heightsAre("the first tide", x, 5, 5, 5, 5, 5, 5, 5, 5, 4, 3, 2, 1, 0);
        Check.due("tide(-9, 1)", x.tide(-9, 1), 1);
        heightsAre("the second tide", x, 1, 0, 0, 0, 0, 0, 0, 0, 0);
        Check.due("tide(-30, 3)", x.tide(-30, 3), 0);
        Check.due("the tides so far", x.count(0), 5);
        Check.due("still farthest", x.count(8), 11);
        Check.due("behind them, cell 0", x.cell(0, 4), 2);
        Check.due("behind them, cell 1", x.cell(1, 4), 1);
        x.set(1, 0);
        Check.due("all cells", x.tide(-9, 1), 40);

        Doc.says("BAD_VALUE;");
        Check.refused("tide(31, 0)", Check::some, y -> y.tide(31, 0), SaltWedge.BAD_VALUE);
        Check.refused("99990 tides, and tide(0, 100)", Check::almostAllTides, y -> y.tide(0, 100), SaltWedge.BAD_VALUE);
        Check.refused("99990 tides, and tide(31, 99)", Check::almostAllTides, y -> y.tide(31, 99), SaltWedge.BAD_VALUE);
    }

    private static void mostTides() {
        Doc.says("FULL if there would be more than 99999 tides.");
        Check.due("almost all: count(0)", Check.made(Check::almostAllTides).count(0), 99990);
        Check.act("99990 tides and 9", Check::almostAllTides, x -> x.tide(0, 9), 10);
        Check.refused("99990 tides and 10", Check::almostAllTides, x -> x.tide(0, 10), SaltWedge.FULL);
        Check.refused("99990 tides and 99", Check::almostAllTides, x -> x.tide(0, 99), SaltWedge.FULL);
        Check.refused("99999 tides and 1", x -> {
            Check.almostAllTides(x);
            x.tide(0, 9);
        }, x -> x.tide(0, 1), SaltWedge.FULL);
        SaltWedge x = Check.made(Check::almostAllTides);
        x.tide(0, 9);
        Check.due("99999 tides: count(0)", x.count(0), 99999);
        Check.due("99999 tides: cell(0, 4)", x.cell(0, 4), 99999);
        Check.due("keep()", x.keep(), 99999);
        x.sink(0, 11);
        Check.due("tides are told though no more may come", x.restsIn(0, 0), 50);
        Check.due("undo()", x.undo(), 3);
        Check.due("undo() of 9 tides", x.undo(), 2);
        Check.due("there is room for 9 again", x.tide(0, 9), 10);
        Check.due("and for no more", x.tide(0, 1), SaltWedge.FULL);
        x.undo();
        Check.due("restore()", x.restore(), 99999);
        Check.due("behind restore()", x.tide(0, 1), SaltWedge.FULL);
    }
}
