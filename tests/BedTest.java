/** The bed and the wedge, and promises 1 to 5: a new object, dig, build, flow, set. */
public final class BedTest {
    public static void main(String[] args) {
        bed();
        wedge();
        newObject();
        dig();
        digErrors();
        build();
        buildErrors();
        flow();
        set();
        setErrors();
        Check.end();
    }

    private static void bed() {
        Doc.section("THE BED, THE WEDGE");
        Doc.says("The bed has 40 cells, 0 at the sea to 39;");
        SaltWedge x = new SaltWedge();
        for (int cell = 0; cell < 40; cell++) {
            Check.hold("there is a cell " + cell, x.cell(cell, 0) > 0);
        }
        Check.due("cell(-1, 0)", x.cell(-1, 0), SaltWedge.UNKNOWN);
        Check.due("cell(40, 0)", x.cell(40, 0), SaltWedge.UNKNOWN);
        x.tide(-9, 1);
        Check.due("the least wedge is in the cell at the sea", x.reach(), 0);
        x.set(1, 0);
        Check.due("a wedge without end has all cells", x.tide(0, 1), 40);

        Doc.says("a cell has a depth (1 to 60; 20 at first)");
        SaltWedge y = new SaltWedge();
        for (int cell = 0; cell < 40; cell++) {
            Check.due("at first: cell(" + cell + ", 0)", y.cell(cell, 0), 20);
            Check.due("the least: dig(" + cell + ", 1)", y.dig(cell, 1), 20);
            Check.due("the most: dig(" + cell + ", 60)", y.dig(cell, 60), 1);
            Check.due("the most: cell(" + cell + ", 0)", y.cell(cell, 0), 60);
        }
        Check.due("dig(0, 0)", y.dig(0, 0), SaltWedge.BAD_VALUE);
        Check.due("dig(0, 61)", y.dig(0, 61), SaltWedge.BAD_VALUE);

        Doc.says("and a sill (0 to 60; 0 at first).");
        for (int cell = 0; cell < 40; cell++) {
            Check.due("at first: cell(" + cell + ", 1)", y.cell(cell, 1), 0);
            Check.due("the most: build(" + cell + ", 60)", y.build(cell, 60), 0);
            Check.due("the least: build(" + cell + ", 0)", y.build(cell, 0), 60);
        }
        Check.due("build(0, -1)", y.build(0, -1), SaltWedge.BAD_VALUE);
        Check.due("build(0, 61)", y.build(0, 61), SaltWedge.BAD_VALUE);
    }

    private static void wedge() {
        Doc.says("The wedge is salt water on the bed: each cell has a height of it (0 to its depth; 0 at first).");
        SaltWedge x = new SaltWedge();
        for (int cell = 0; cell < 40; cell++) {
            Check.due("at first: cell(" + cell + ", 2)", x.cell(cell, 2), 0);
        }
        x.dig(2, 1);
        x.tide(30, 4);
        Check.due("a height that is just the depth", x.cell(0, 2), 20);
        Check.due("a height that is just a depth of 1", x.cell(2, 2), 1);
        x.tide(30, 9);
        Check.due("no height above the depth", x.cell(0, 2), 20);
        Check.due("no height above a depth of 1", x.cell(2, 2), 1);
        x.tide(-30, 4);
        Check.due("a height of just 0", x.cell(0, 2), 0);
        x.tide(-30, 9);
        Check.due("no height below 0", x.cell(0, 2), 0);
        Check.due("no height below 0 in any cell", x.count(3), 0);

        Doc.says("The river has a flow (0 to 99; 10 at first).");
        SaltWedge y = new SaltWedge();
        Check.due("at first: count(1)", y.count(1), 10);
        Check.due("the least: flow(0)", y.flow(0), 10);
        Check.due("the most: flow(99)", y.flow(99), 0);
        Check.due("the most: count(1)", y.count(1), 99);
        Check.due("flow(-1)", y.flow(-1), SaltWedge.BAD_VALUE);
        Check.due("flow(100)", y.flow(100), SaltWedge.BAD_VALUE);
    }

    private static void newObject() {
        Doc.section("Promise 1: A new object");
        Doc.says("`SaltWedge()`: Creates a bed without salt water and wells.");
        SaltWedge x = new SaltWedge();
        int[] ofCells = {20, 0, 0, SaltWedge.NONE, 0};
        for (int cell = 0; cell < 40; cell++) {
            for (int what = 0; what < ofCells.length; what++) {
                Check.due("new: cell(" + cell + ", " + what + ")", x.cell(cell, what), ofCells[what]);
            }
        }
        int[] counts = {0, 10, 0, 0, 0, 0, 0, 0, SaltWedge.NONE, 20, 1, 5, 0, 0};
        for (int what = 0; what < counts.length; what++) {
            Check.due("new: count(" + what + ")", x.count(what), counts[what]);
        }
        Check.due("new: reach()", x.reach(), SaltWedge.NONE);
        Check.due("new: well(0, 0)", x.well(0, 0), SaltWedge.UNKNOWN);
        Check.due("new: stopped(0)", x.stopped(0), SaltWedge.NONE);
        Check.due("new: stopped(1)", x.stopped(1), SaltWedge.NONE);
        Check.due("new: undo()", x.undo(), SaltWedge.NONE);
        Check.due("new: restore()", x.restore(), SaltWedge.NONE);
        Check.due("new: clearText()", x.clearText(), 0);
        Check.due("new: perform()", x.perform(), -100);
        Check.some(x);
        Check.due("an object is not changed by another one", new SaltWedge().count(3), 0);
    }

    private static void dig() {
        Doc.section("Promise 2: dig");
        Doc.says("`int dig(int cell, int depth)`: Digs a cell: it has this depth then.");
        SaltWedge x = new SaltWedge();
        x.dig(12, 33);
        Check.due("the cell", x.cell(12, 0), 33);
        Check.due("the cell below", x.cell(11, 0), 20);
        Check.due("the cell above", x.cell(13, 0), 20);
        x.dig(12, 7);
        Check.due("the cell, less deep", x.cell(12, 0), 7);
        digEachDepth();

        Doc.says("This is an act.");
        Check.act("dig(3, 60)", Check::fresh, y -> y.dig(3, 60), 20);
        Check.act("dig(3, 60) of some", Check::some, y -> y.dig(3, 60), 20);

        Doc.says("- `cell`: 0 to 39");
        Check.act("dig(0, 30)", Check::some, y -> y.dig(0, 30), 20);
        Check.act("dig(39, 30)", Check::some, y -> y.dig(39, 30), 20);
        Check.refusedBeyond("dig(.., 30)", (y, cell) -> y.dig(cell, 30), 0, 39, SaltWedge.UNKNOWN);

        Doc.says("- `depth`: 1 to 60");
        Check.act("dig(30, 1)", Check::some, y -> y.dig(30, 1), 11);
        Check.act("dig(30, 60)", Check::some, y -> y.dig(30, 60), 11);
        Check.refusedBeyond("dig(30, ..)", (y, depth) -> y.dig(30, depth), 1, 60, SaltWedge.BAD_VALUE);
    }

    private static void digEachDepth() {
        SaltWedge some = Check.made(Check::some);
        for (int cell = 0; cell < 40; cell++) {
            int least = Math.max(some.cell(cell, 1), some.cell(cell, 2));
            int previous = some.cell(cell, 0);
            for (int depth = 1; depth <= 60; depth++) {
                int dug = cell;
                int to = depth;
                String what = "dig(" + cell + ", " + depth + ")";
                if (depth < least) {
                    Check.changes(what, x -> x.dig(dug, to), SaltWedge.NOT_POSSIBLE);
                } else if (depth == previous) {
                    Check.changes(what, x -> x.dig(dug, to), SaltWedge.NONE);
                } else {
                    Check.changes(what, x -> x.dig(dug, to), previous, "cell(" + cell + ", 0)");
                }
            }
        }
    }

    private static void digErrors() {
        Doc.says("Returns the previous depth;");
        SaltWedge x = new SaltWedge();
        Check.due("dig(39, 9)", x.dig(39, 9), 20);
        Check.due("dig(39, 7)", x.dig(39, 7), 9);
        Check.due("dig(39, 60)", x.dig(39, 60), 7);

        Doc.says("UNKNOWN;");
        Check.refused("dig(40, 61)", Check::some, y -> y.dig(40, 61), SaltWedge.UNKNOWN);
        Check.refused("dig(-1, 0)", Check::some, y -> y.dig(-1, 0), SaltWedge.UNKNOWN);
        Check.refused("dig(40, 20)", Check::some, y -> y.dig(40, 20), SaltWedge.UNKNOWN);

        Doc.says("BAD_VALUE;");
        Check.refused("dig(0, 0), where the wedge is higher", Check::some, y -> y.dig(0, 0), SaltWedge.BAD_VALUE);
        Check.refused("dig(25, 0), where the sill is higher", Check::some, y -> y.dig(25, 0), SaltWedge.BAD_VALUE);

        Doc.says("NOT_POSSIBLE if the wedge there is higher, or the sill is;");
        Check.act("dig to a wedge of 19", Check::some, y -> y.dig(1, 19), 20);
        Check.refused("dig below a wedge of 19", Check::some, y -> y.dig(1, 18), SaltWedge.NOT_POSSIBLE);
        Check.refused("dig to 1 below the wedge", Check::some, y -> y.dig(1, 1), SaltWedge.NOT_POSSIBLE);
        Check.act("dig to a wedge of 11 above its sill", Check::some, y -> y.dig(9, 11), 20);
        Check.refused("dig below a wedge of 11", Check::some, y -> y.dig(9, 10), SaltWedge.NOT_POSSIBLE);
        Check.act("dig to a sill of 8", Check::some, y -> y.dig(25, 8), 20);
        Check.refused("dig below a sill of 8", Check::some, y -> y.dig(25, 7), SaltWedge.NOT_POSSIBLE);
        Check.act("dig to the last of the wedge", Check::some, y -> y.dig(19, 1), 20);

        Doc.says("NONE if it is so already.");
        Check.refused("dig(5, 20)", Check::some, y -> y.dig(5, 20), SaltWedge.NONE);
        Check.refused("dig(30, 11)", Check::some, y -> y.dig(30, 11), SaltWedge.NONE);
        Check.refused("dig(0, 20), a wedge of just the depth", Check::some, y -> y.dig(0, 20), SaltWedge.NONE);
        Check.refused("dig(2, 20), never dug", Check::fresh, y -> y.dig(2, 20), SaltWedge.NONE);
    }

    private static void build() {
        Doc.section("Promise 3: build");
        Doc.says("`int build(int cell, int sill)`: Builds a sill in a cell, or takes it away (0).");
        SaltWedge x = new SaltWedge();
        x.build(12, 13);
        Check.due("the cell", x.cell(12, 1), 13);
        Check.due("the cell below", x.cell(11, 1), 0);
        Check.due("the cell above", x.cell(13, 1), 0);
        x.build(12, 4);
        Check.due("a lower one", x.cell(12, 1), 4);
        x.build(12, 0);
        Check.due("none any more", x.cell(12, 1), 0);
        x.tide(0, 2);
        x.build(3, 5);
        Check.due("the wedge stays as it is", x.cell(3, 2), 7);
        buildEachSill();

        Doc.says("This is an act.");
        Check.act("build(3, 20)", Check::fresh, y -> y.build(3, 20), 0);
        Check.act("build(3, 20) of some", Check::some, y -> y.build(3, 20), 0);
        Check.act("build(9, 0) of some", Check::some, y -> y.build(9, 0), 8);

        Doc.says("- `cell`: 0 to 39");
        Check.act("build(0, 3)", Check::some, y -> y.build(0, 3), 0);
        Check.act("build(39, 3)", Check::some, y -> y.build(39, 3), 0);
        Check.refusedBeyond("build(.., 3)", (y, cell) -> y.build(cell, 3), 0, 39, SaltWedge.UNKNOWN);

        Doc.says("- `sill`: 0 to 60");
        Check.act("build(25, 0)", Check::some, y -> y.build(25, 0), 8);
        Check.act("build(38, 60)", y -> y.dig(38, 60), y -> y.build(38, 60), 0);
        Check.act("build(38, 1)", Check::some, y -> y.build(38, 1), 0);
        Check.refusedBeyond("build(25, ..)", (y, sill) -> y.build(25, sill), 0, 60, SaltWedge.BAD_VALUE);
    }

    private static void buildEachSill() {
        SaltWedge some = Check.made(Check::some);
        for (int cell = 0; cell < 40; cell++) {
            int most = some.cell(cell, 0);
            int previous = some.cell(cell, 1);
            for (int sill = 0; sill <= 60; sill++) {
                int built = cell;
                int to = sill;
                String what = "build(" + cell + ", " + sill + ")";
                if (sill > most) {
                    Check.changes(what, x -> x.build(built, to), SaltWedge.NOT_POSSIBLE);
                } else if (sill == previous) {
                    Check.changes(what, x -> x.build(built, to), SaltWedge.NONE);
                } else {
                    Check.changes(what, x -> x.build(built, to), previous, "cell(" + cell + ", 1)");
                }
            }
        }
    }

    private static void buildErrors() {
        Doc.says("Returns the previous one;");
        SaltWedge x = new SaltWedge();
        Check.due("build(39, 9)", x.build(39, 9), 0);
        Check.due("build(39, 7)", x.build(39, 7), 9);
        Check.due("build(39, 0)", x.build(39, 0), 7);

        Doc.says("UNKNOWN;");
        Check.refused("build(40, 61)", Check::some, y -> y.build(40, 61), SaltWedge.UNKNOWN);
        Check.refused("build(-1, -1)", Check::some, y -> y.build(-1, -1), SaltWedge.UNKNOWN);
        Check.refused("build(40, 0)", Check::some, y -> y.build(40, 0), SaltWedge.UNKNOWN);

        Doc.says("BAD_VALUE;");
        Check.refused("build(0, 61), higher than the depth too", Check::some, y -> y.build(0, 61), SaltWedge.BAD_VALUE);

        Doc.says("NOT_POSSIBLE if it would be higher than the depth;");
        Check.act("build(0, 20), just the depth", Check::some, y -> y.build(0, 20), 0);
        Check.refused("build(0, 21)", Check::some, y -> y.build(0, 21), SaltWedge.NOT_POSSIBLE);
        Check.act("build(30, 11), just the depth", Check::some, y -> y.build(30, 11), 0);
        Check.refused("build(30, 12)", Check::some, y -> y.build(30, 12), SaltWedge.NOT_POSSIBLE);
        Check.refused("build(30, 60)", Check::some, y -> y.build(30, 60), SaltWedge.NOT_POSSIBLE);

        Doc.says("NONE if it is so already.");
        Check.refused("build(9, 8)", Check::some, y -> y.build(9, 8), SaltWedge.NONE);
        Check.refused("build(0, 0)", Check::some, y -> y.build(0, 0), SaltWedge.NONE);
        Check.refused("build(39, 20) again", y -> y.build(39, 20), y -> y.build(39, 20), SaltWedge.NONE);
    }

    private static void flow() {
        Doc.section("Promise 4: flow");
        Doc.says("`int flow(int flow)`: Sets the flow of the river.");
        SaltWedge x = new SaltWedge();
        x.flow(17);
        Check.due("count(1)", x.count(1), 17);
        Check.due("mark(0, 0)", x.mark(0, 0), 3);
        for (int value = 0; value <= 99; value++) {
            int flow = value;
            String[] changed = flow == 10 ? new String[0] : new String[] {"count(1)"};
            Check.changes("flow(" + flow + ")", y -> y.flow(flow), flow == 10 ? SaltWedge.NONE : 10, changed);
        }

        Doc.says("This is an act.");
        Check.act("flow(5)", Check::fresh, y -> y.flow(5), 10);
        Check.act("flow(5) of some", Check::some, y -> y.flow(5), 10);

        Doc.says("- `flow`: 0 to 99");
        Check.act("flow(0)", Check::some, y -> y.flow(0), 10);
        Check.act("flow(99)", Check::some, y -> y.flow(99), 10);

        Doc.says("Returns the previous one;");
        Check.due("flow(0)", x.flow(0), 17);
        Check.due("flow(99)", x.flow(99), 0);
        Check.due("flow(1)", x.flow(1), 99);

        Doc.says("BAD_VALUE;");
        Check.refusedBeyond("flow(..)", SaltWedge::flow, 0, 99, SaltWedge.BAD_VALUE);

        Doc.says("NONE if it is so already.");
        Check.refused("flow(10)", Check::some, y -> y.flow(10), SaltWedge.NONE);
        Check.refused("flow(0) again", y -> y.flow(0), y -> y.flow(0), SaltWedge.NONE);
    }

    private static void set() {
        Doc.section("Promise 5: set");
        Doc.says("`int set(int which, int value)`: Sets a setting.");
        SaltWedge x = new SaltWedge();
        x.set(0, 31);
        x.set(1, 2);
        x.set(2, 7);
        Check.due("count(9)", x.count(9), 31);
        Check.due("count(10)", x.count(10), 2);
        Check.due("count(11)", x.count(11), 7);
        Check.due("mark(1, 0)", x.mark(1, 0), 18);
        x.tide(0, 1);
        Check.due("cell(0, 2)", x.cell(0, 2), 7);
        setEach(0, 0, 60, 20);
        setEach(1, 0, 9, 1);
        setEach(2, 1, 60, 5);

        Doc.says("This is an act.");
        Check.act("set(0, 5)", Check::fresh, y -> y.set(0, 5), 20);
        Check.act("set(1, 5) of some", Check::some, y -> y.set(1, 5), 1);
        Check.act("set(2, 6) of some", Check::some, y -> y.set(2, 6), 5);

        Doc.says("- `which`: 0 to 2");
        Check.act("set(0, 4)", Check::some, y -> y.set(0, 4), 20);
        Check.act("set(2, 4)", Check::some, y -> y.set(2, 4), 5);
        Check.refusedBeyond("set(.., 4)", (y, which) -> y.set(which, 4), 0, 2, SaltWedge.UNKNOWN);

        Doc.says("- `value`: in its range");
        int[] least = {0, 0, 1};
        int[] most = {60, 9, 60};
        int[] first = {20, 1, 5};
        for (int number = 0; number < 3; number++) {
            int which = number;
            Check.act("set(" + which + ", the least)", Check::some, y -> y.set(which, least[which]), first[which]);
            Check.act("set(" + which + ", the most)", Check::some, y -> y.set(which, most[which]), first[which]);
            Check.refusedBeyond("set(" + which + ", ..)", (y, value) -> y.set(which, value), least[which], most[which],
                SaltWedge.BAD_VALUE);
        }
    }

    private static void setEach(int which, int least, int most, int previous) {
        for (int each = least; each <= most; each++) {
            int value = each;
            String[] changed = value == previous ? new String[0] : new String[] {"count(" + (9 + which) + ")"};
            int want = value == previous ? SaltWedge.NONE : previous;
            Check.changes("set(" + which + ", " + value + ")", x -> x.set(which, value), want, changed);
        }
    }

    private static void setErrors() {
        Doc.says("Returns the previous one;");
        SaltWedge x = new SaltWedge();
        int[] first = {20, 1, 5};
        for (int which = 0; which < 3; which++) {
            Check.due("set(" + which + ", 9)", x.set(which, 9), first[which]);
            Check.due("set(" + which + ", 8)", x.set(which, 8), 9);
        }

        Doc.says("UNKNOWN;");
        Check.refused("set(3, -1)", Check::some, y -> y.set(3, -1), SaltWedge.UNKNOWN);
        Check.refused("set(-1, 61)", Check::some, y -> y.set(-1, 61), SaltWedge.UNKNOWN);

        Doc.says("BAD_VALUE;");
        Check.refused("set(1, 20), which the setting 0 has", Check::some, y -> y.set(1, 20), SaltWedge.BAD_VALUE);
        Check.refused("set(2, 0), which the others may have", Check::some, y -> y.set(2, 0), SaltWedge.BAD_VALUE);

        Doc.says("NONE if it is so already.");
        Check.refused("set(0, 20)", Check::some, y -> y.set(0, 20), SaltWedge.NONE);
        Check.refused("set(1, 1)", Check::some, y -> y.set(1, 1), SaltWedge.NONE);
        Check.refused("set(2, 5)", Check::some, y -> y.set(2, 5), SaltWedge.NONE);
        Check.refused("set(0, 0) again", y -> y.set(0, 0), y -> y.set(0, 0), SaltWedge.NONE);
    }
}
