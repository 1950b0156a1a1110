/** Promises 17 to 19 and 26, what stands: cell, well, reach, count. */
public final class ToldTest {
    public static void main(String[] args) {
        cell();
        cellErrors();
        well();
        wellErrors();
        reach();
        count();
        countErrors();
        Check.end();
    }

    private static void cell() {
        Doc.section("Promise 17: cell");
        Doc.says("`int cell(int cell, int what)`:");
        SaltWedge x = new SaltWedge();
        x.dig(7, 33);
        x.build(7, 3);
        x.sink(30, 4);
        x.sink(7, 4);
        x.tide(0, 2);
        x.tide(-30, 1);
        x.tide(0, 1);
        int[] wants = {33, 3, 0, 1, 0};
        int[] below = {20, 0, 4, SaltWedge.NONE, 3};
        for (int what = 0; what <= 4; what++) {
            Check.due("cell(7, " + what + ")", x.cell(7, what), wants[what]);
            Check.due("cell(6, " + what + ")", x.cell(6, what), below[what]);
        }

        Doc.says("- `cell`: 0 to 39");
        Check.tells("cell(0, 0)", y -> y.cell(0, 0), 20);
        Check.tells("cell(39, 0)", y -> y.cell(39, 0), 20);
        Check.refusedBeyond("cell(.., 0)", (y, cell) -> y.cell(cell, 0), 0, 39, SaltWedge.UNKNOWN);

        Doc.says("- `what`: 0 for its depth, 1 for its sill, 2 for the height of the wedge, 3 for the well beside it "
            + "(NONE without one), 4 for tides so far behind which it had salt water");
        Check.tells("its depth", y -> y.cell(30, 0), 11);
        Check.tells("its sill", y -> y.cell(9, 1), 8);
        Check.tells("the height of the wedge", y -> y.cell(9, 2), 11);
        Check.tells("the well 0", y -> y.cell(1, 3), 0);
        Check.tells("the well 3", y -> y.cell(12, 3), 3);
        Check.tells("no well", y -> y.cell(0, 3), SaltWedge.NONE);
        Check.tells("five tides", y -> y.cell(19, 4), 5);
        Check.tells("no tides", y -> y.cell(20, 4), 0);
        SaltWedge z = new SaltWedge();
        z.tide(-9, 4);
        Check.due("tides that come back count", z.tide(-30, 7) + z.tide(-9, 2), 1);
        Check.due("four and two", z.cell(0, 4), 6);
        SaltWedge w = new SaltWedge();
        w.tide(10, 4);
        w.tide(-30, 3);
        Check.due("salt water that is left behind tides with a mark of 0 counts", w.cell(0, 4), 7);
        w.tide(-30, 9);
        Check.due("what is gone does not count", w.cell(0, 4), 7);
    }

    private static void cellErrors() {
        Doc.says("Returns the number;");
        Check.tells("cell(25, 1)", x -> x.cell(25, 1), 8);

        Doc.says("UNKNOWN;");
        Check.tells("cell(40, 5)", x -> x.cell(40, 5), SaltWedge.UNKNOWN);
        Check.tells("cell(-1, -1)", x -> x.cell(-1, -1), SaltWedge.UNKNOWN);

        Doc.says("BAD_VALUE.");
        Check.refusedBeyond("cell(0, ..)", (x, what) -> x.cell(0, what), 0, 4, SaltWedge.BAD_VALUE);
        Check.refusedBeyond("cell(39, ..)", (x, what) -> x.cell(39, what), 0, 4, SaltWedge.BAD_VALUE);
    }

    private static void well() {
        Doc.section("Promise 18: well");
        Doc.says("`int well(int well, int what)`:");
        SaltWedge x = Check.made(Check::some);
        int[][] wants = {{1, 30, 56, 1, 0, 90, 1}, {5, 4, 0, 0, 0, 20, 0}, {6, 9, 0, 0, 5, 45, 0},
            {12, 15, 12, 0, 15, 75, 0}};
        for (int number = 0; number < 4; number++) {
            for (int what = 0; what <= 6; what++) {
                Check.due("well(" + number + ", " + what + ")", x.well(number, what), wants[number][what]);
            }
        }

        Doc.says("- `well`: a well");
        Check.tells("well(0, 0)", y -> y.well(0, 0), 1);
        Check.tells("well(3, 0)", y -> y.well(3, 0), 12);
        Check.refusedBeyond("well(.., 0)", (y, well) -> y.well(well, 0), 0, 3, SaltWedge.UNKNOWN);
        SaltWedge six = new SaltWedge();
        for (int number = 0; number < 6; number++) {
            Check.due("well(" + number + ", 0) of fewer", six.well(number, 0), SaltWedge.UNKNOWN);
            six.sink(number, 5);
            Check.due("well(" + number + ", 0)", six.well(number, 0), number);
        }
        Check.due("well(6, 0) of six", six.well(6, 0), SaltWedge.UNKNOWN);

        Doc.says("- `what`: 0 for its cell, 1 for its rate, 2 for its salt, 3 for whether it rests (1, otherwise 0), 4 "
            + "for its cone (0 if it rests), 5 for water that it drew so far (its rate for each tide in which it did "
            + "not rest), 6 for how often it turned salt so far");
        SaltWedge y = new SaltWedge();
        y.set(2, 60);
        y.sink(0, 30);
        y.tide(0, 3);
        Check.due("it rests", y.well(0, 3), 1);
        Check.due("the cone of one that rests", y.well(0, 4), 0);
        Check.due("its water, with the tide in which it turned", y.well(0, 5), 90);
        y.setRate(0, 7);
        y.tide(0, 30);
        Check.due("its water, at rest", y.well(0, 5), 90);
        y.setRate(0, 30);
        y.tide(0, 1);
        Check.due("its water, with a new rate", y.well(0, 5), 120);
        Check.due("it turned once", y.well(0, 6), 1);
        y.tide(0, 2);
        Check.due("it turned twice", y.well(0, 6), 2);
    }

    private static void wellErrors() {
        Doc.says("Returns the number;");
        Check.tells("well(2, 5)", x -> x.well(2, 5), 45);

        Doc.says("UNKNOWN;");
        Check.tells("well(4, 7)", x -> x.well(4, 7), SaltWedge.UNKNOWN);
        Check.tells("well(-1, -1)", x -> x.well(-1, -1), SaltWedge.UNKNOWN);
        Check.refused("well(0, 0) of none", Check::fresh, x -> x.well(0, 0), SaltWedge.UNKNOWN);

        Doc.says("BAD_VALUE.");
        Check.refusedBeyond("well(0, ..)", (x, what) -> x.well(0, what), 0, 6, SaltWedge.BAD_VALUE);
        Check.refusedBeyond("well(3, ..)", (x, what) -> x.well(3, what), 0, 6, SaltWedge.BAD_VALUE);
    }

    private static void reach() {
        Doc.section("Promise 19: reach");
        Doc.says("`int reach()`: Tells how far the wedge reaches.");
        Check.tells("reach()", SaltWedge::reach, 19);

        Doc.says("Returns the greatest cell with salt water;");
        SaltWedge x = new SaltWedge();
        x.tide(-9, 1);
        Check.due("the cell 0", x.reach(), 0);
        x.tide(30, 2);
        Check.due("a height of 1 in the cell 19", x.reach(), 19);
        x.build(3, 20);
        x.tide(30, 1);
        Check.due("farther up than a sill", x.reach(), 14);
        x.tide(30, 1);
        Check.due("below the sill", x.reach(), 2);
        x.build(3, 0);
        x.set(1, 0);
        x.tide(0, 1);
        Check.due("the cell 39", x.reach(), 39);

        Doc.says("NONE if there is none.");
        Check.refused("reach() at first", Check::fresh, SaltWedge::reach, SaltWedge.NONE);
        x.tide(-30, 99);
        Check.due("reach() of none any more", x.reach(), SaltWedge.NONE);
    }

    private static void count() {
        Doc.section("Promise 26: count");
        Doc.says("`int count(int what)`:");
        int[] wants = {5, 10, 20, 210, 4, 1, 68, 230, 19, 20, 1, 5, 4, 8};
        for (int number = 0; number < wants.length; number++) {
            int what = number;
            Check.tells("count(" + what + ")", x -> x.count(what), wants[what]);
        }

        Doc.says("- `what`: 0 for tides so far, 1 for the flow, 2 for cells with salt water, 3 for the heights of all "
            + "cells, 4 for wells, 5 for those that rest, 6 for the salt of all wells, 7 for water drawn so far by "
            + "wells that are there,");
        SaltWedge x = Check.made(Check::some);
        x.fillIn(0);
        Check.due("without one that rests: wells", x.count(4), 3);
        Check.due("without one that rests: those that rest", x.count(5), 0);
        Check.due("without one that rests: salt", x.count(6), 12);
        Check.due("without one that rests: water", x.count(7), 140);
        x.fillIn(0);
        x.fillIn(0);
        x.fillIn(0);
        for (int what = 4; what <= 7; what++) {
            Check.due("without wells: count(" + what + ")", x.count(what), 0);
        }
        x.set(1, 0);
        x.set(2, 60);
        x.flow(0);
        x.tide(0, 1);
        Check.due("all cells have salt water", x.count(2), 40);
        Check.due("30 heights of 20 and 10 of 11", x.count(3), 710);

        Doc.says("8 for the farthest cell that the wedge reached so far behind a tide (NONE if none),");
        SaltWedge y = new SaltWedge();
        Check.due("without tides", y.count(8), SaltWedge.NONE);
        y.tide(-10, 3);
        Check.due("tides that reach nothing", y.count(8), SaltWedge.NONE);
        y.tide(-9, 1);
        Check.due("the cell 0", y.count(8), 0);
        y.tide(30, 1);
        Check.due("the cell 19", y.count(8), 19);
        y.tide(-30, 9);
        Check.due("still the cell 19", y.count(8), 19);
        y.undo();
        y.undo();
        Check.due("the cell 0 again", y.count(8), 0);
        Check.due("a tide of several that reached farthest", Check.perform(y, "t9;t-30*99"), 2);
        Check.due("the cell 18", y.count(8), 18);
    }

    private static void countErrors() {
        Doc.says("9 to 11 for the settings, 12 for the states in the history, 13 for the length of the text");
        SaltWedge x = new SaltWedge();
        x.set(0, 41);
        Check.due("the setting 0", x.count(9), 41);
        x.set(1, 7);
        Check.due("the setting 1", x.count(10), 7);
        x.set(2, 33);
        Check.due("the setting 2", x.count(11), 33);
        Check.due("three states", x.count(12), 3);
        x.flow(1);
        Check.due("four states", x.count(12), 4);
        x.flow(2);
        Check.due("no more states", x.count(12), 4);
        x.undo();
        Check.due("three states again", x.count(12), 3);
        Check.due("no text", x.count(13), 0);
        Check.write(x, "t".repeat(60));
        Check.due("a text of 60", x.count(13), 60);

        Doc.says("Returns the number;");
        Check.tells("count(3)", y -> y.count(3), 210);

        Doc.says("BAD_VALUE.");
        Check.refusedBeyond("count(..)", SaltWedge::count, 0, 13, SaltWedge.BAD_VALUE);
        Check.refused("count(14) at first", Check::fresh, y -> y.count(14), SaltWedge.BAD_VALUE);
    }
}
