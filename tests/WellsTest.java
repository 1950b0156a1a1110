import java.util.ArrayList;
import java.util.List;

/** The wells, and promises 6 to 8: sink, fillIn, setRate. */
public final class WellsTest {
    /** What a well has none of at first: its salt, whether it rests, its water, how often it turned. */
    private static final int[] NOTHING_AT_FIRST = {2, 3, 5, 6};

    public static void main(String[] args) {
        numbers();
        wellsOfTheTerms();
        cones();
        gettingSalt();
        turningSalt();
        resting();
        allAtOnce();
        sink();
        sinkErrors();
        fillIn();
        fillInThoseThatRest();
        setRate();
        Check.end();
    }

    /** A well beside the cell 0, with 40 of salt and a wedge of 10 in 20. */
    private static SaltWedge with40() {
        SaltWedge x = new SaltWedge();
        x.set(2, 60);
        x.sink(0, 30);
        x.tide(0, 2);
        return x;
    }

    private static void numbers() {
        Doc.section("WELLS");
        Doc.says("There are at most 6 wells at a time,");
        SaltWedge x = Check.made(Check::sixWells);
        Check.due("six wells", x.count(4), 6);
        Check.due("one more", x.sink(30, 5), SaltWedge.FULL);
        Check.due("still six", x.count(4), 6);
        x.fillIn(5);
        Check.due("room again", x.sink(30, 5), 5);
        Check.due("and for no more", x.sink(31, 5), SaltWedge.FULL);

        Doc.says("numbered from 0 in the order in which they came;");
        SaltWedge y = new SaltWedge();
        int[] cells = {20, 3, 39, 0, 21, 7};
        for (int number = 0; number < 6; number++) {
            Check.due("sink beside " + cells[number], y.sink(cells[number], 5), number);
        }
        for (int number = 0; number < 6; number++) {
            Check.due("cell of " + number, y.well(number, 0), cells[number]);
            Check.due("well beside " + cells[number], y.cell(cells[number], 3), number);
        }

        Doc.says("if one goes, those behind it have numbers less by 1.");
        for (int gone = 0; gone < 6; gone++) {
            SaltWedge z = Check.made(Check::sixWells);
            z.fillIn(gone);
            for (int number = 0; number < 5; number++) {
                int before = number < gone ? number : number + 1;
                Check.due("without " + gone + ": cell of " + number, z.well(number, 0), 3 * before);
                Check.due("without " + gone + ": rate of " + number, z.well(number, 1), before + 1);
                Check.due("without " + gone + ": the well beside", z.cell(3 * before, 3), number);
            }
            Check.due("without " + gone + ": no well 5", z.well(5, 0), SaltWedge.UNKNOWN);
            Check.due("without " + gone + ": none beside its cell", z.cell(3 * gone, 3), SaltWedge.NONE);
        }
    }

    private static void wellsOfTheTerms() {
        Doc.says("A well is beside a cell, has a rate (1 to 30), and some salt (0 at first).");
        SaltWedge x = new SaltWedge();
        Check.due("the least rate", x.sink(7, 1), 0);
        Check.due("the most", x.sink(9, 30), 1);
        Check.due("a rate of 0", x.sink(11, 0), SaltWedge.BAD_VALUE);
        Check.due("a rate of 31", x.sink(11, 31), SaltWedge.BAD_VALUE);
        Check.due("the cell", x.well(0, 0), 7);
        Check.due("the rate", x.well(0, 1), 1);
        Check.due("the rate of the other one", x.well(1, 1), 30);
        Check.due("salt at first", x.well(0, 2), 0);
        Check.due("salt at first of the other one", x.well(1, 2), 0);

        Doc.says("No two are beside one cell.");
        Check.due("a second one beside 7", x.sink(7, 5), SaltWedge.NOT_POSSIBLE);
        Check.due("one beside 8", x.sink(8, 5), 2);
        x.fillIn(0);
        Check.due("beside 7, when the first one has gone", x.sink(7, 5), 2);
    }

    private static void cones() {
        Doc.says("When a well draws, its cone is its rate, less the rates of other wells beside the cells next to its "
            + "own (these share the water), at least 0.");
        SaltWedge x = new SaltWedge();
        x.sink(5, 30);
        Check.due("alone", x.well(0, 4), 30);
        x.sink(7, 5);
        x.sink(3, 5);
        Check.due("two cells on, on both sides", x.well(0, 4), 30);
        x.sink(4, 4);
        Check.due("the cell below", x.well(0, 4), 26);
        Check.due("the cell below, its own cone", x.well(3, 4), 0);
        x.sink(6, 7);
        Check.due("the cells on both sides", x.well(0, 4), 19);
        x.setRate(3, 22);
        Check.due("a cone of 1", x.well(0, 4), 1);
        x.setRate(3, 23);
        Check.due("a cone of just 0", x.well(0, 4), 0);
        x.setRate(3, 24);
        Check.due("a cone of no less", x.well(0, 4), 0);
        x.fillIn(3);
        Check.due("without the cell below", x.well(0, 4), 23);
        SaltWedge y = new SaltWedge();
        y.sink(0, 8);
        y.sink(39, 9);
        Check.due("the ends of the bed share nothing", y.well(0, 4) * 100 + y.well(1, 4), 809);
    }

    private static void gettingSalt() {
        Doc.says("If the height of the wedge in its cell, and its cone, together, are above what is left of the depth "
            + "of the cell without the height of its sill, the well gets as much salt as they are above it;");
        SaltWedge x = new SaltWedge();
        x.set(2, 60);
        x.sink(0, 10);
        x.tide(0, 1);
        Check.due("10 and 10 of 20", x.well(0, 2), 0);
        x.setRate(0, 11);
        x.tide(0, 1);
        Check.due("10 and 11 of 20", x.well(0, 2), 1);
        x.setRate(0, 13);
        x.tide(0, 3);
        Check.due("10 and 13 of 20, three times", x.well(0, 2), 10);
        x.build(0, 4);
        x.tide(0, 1);
        Check.due("10 and 13 of 16", x.well(0, 2), 17);
        x.build(0, 10);
        x.tide(0, 1);
        Check.due("0 and 13 of 10", x.well(0, 2), 20);
        x.build(0, 20);
        x.tide(0, 1);
        Check.due("0 and 13 of 0", x.well(0, 2), 33);
        SaltWedge y = new SaltWedge();
        y.sink(3, 2);
        y.sink(4, 2);
        y.tide(10, 4);
        y.set(2, 1);
        y.build(3, 4);
        y.dig(4, 16);
        y.tide(10, 1);
        Check.due("17 and a cone of 0, of 16", y.well(0, 2), 1);
        Check.due("16 and a cone of 0, of 16", y.well(1, 2), 0);
        deepFlood();

        Doc.says("otherwise it gets rid of 2 of its salt, at least 0 stays.");
        x.build(0, 7);
        x.tide(-30, 1);
        Check.due("0 and 13 of 13", x.well(0, 2), 31);
        x.tide(-30, 14);
        Check.due("14 tides on", x.well(0, 2), 3);
        x.tide(-30, 1);
        Check.due("3 less 2", x.well(0, 2), 1);
        x.tide(-30, 1);
        Check.due("1 less 2", x.well(0, 2), 0);
        x.tide(-30, 1);
        Check.due("0 less 2", x.well(0, 2), 0);
        SaltWedge z = new SaltWedge();
        z.sink(0, 20);
        z.tide(-8, 1);
        Check.due("2 and 20 of 20", z.well(0, 2), 2);
        z.tide(-30, 1);
        Check.due("2 less 2", z.well(0, 2), 0);
        Check.due("it never rested", z.well(0, 3) + z.well(0, 6), 0);
    }

    /** No salt is too much: a sill that is built under a wedge of 60 leaves nothing of the depth. */
    private static void deepFlood() {
        SaltWedge x = new SaltWedge();
        x.dig(0, 60);
        x.set(0, 60);
        x.set(2, 60);
        x.flow(0);
        x.sink(0, 24);
        x.tide(0, 2);
        Check.due("60 and 24 of 60, twice", x.well(0, 2), 48);
        x.set(2, 1);
        x.build(0, 60);
        x.setRate(0, 30);
        x.tide(0, 1);
        Check.due("59 and 30 of 0", x.well(0, 2), 48 + 89);
        Check.due("it rests", x.well(0, 3), 1);
        x.tide(0, 30);
        Check.due("30 tides on", x.well(0, 2), 48 + 89 - 60);
    }

    private static void turningSalt() {
        Doc.says("A well with 50 of salt or more is salt;");
        int[] rates = {19, 20, 21, 30};
        int[] salts = {49, 50, 51, 60};
        int[] rests = {0, 1, 1, 1};
        for (int at = 0; at < rates.length; at++) {
            SaltWedge x = with40();
            x.setRate(0, rates[at]);
            x.tide(0, 1);
            String what = "salt of " + salts[at];
            Check.due(what, x.well(0, 2), salts[at]);
            Check.due(what + ": rests", x.well(0, 3), rests[at]);
            Check.due(what + ": turned", x.well(0, 6), rests[at]);
            Check.due(what + ": cone", x.well(0, 4), rests[at] == 1 ? 0 : rates[at]);
            Check.due(what + ": water", x.well(0, 5), 60 + rates[at]);
            x.setRate(0, 10);
            x.tide(0, 1);
            Check.due(what + ", less 2", x.well(0, 2), salts[at] - 2);
            Check.due(what + ", less 2: rests", x.well(0, 3), rests[at]);
            Check.due(what + ", less 2: water", x.well(0, 5), 60 + rates[at] + (rests[at] == 1 ? 0 : 10));
        }
    }

    private static void resting() {
        Doc.says("it rests then, until its salt is 0:");
        SaltWedge x = with40();
        x.setRate(0, 20);
        x.tide(0, 1);
        Check.due("salt of 50", x.well(0, 2) * 10 + x.well(0, 3), 501);
        for (int tides = 1; tides <= 24; tides++) {
            x.tide(30, 1);
            Check.due("behind " + tides + " tides", x.well(0, 2) * 10 + x.well(0, 3), (50 - 2 * tides) * 10 + 1);
        }
        x.tide(30, 1);
        Check.due("behind 25 tides", x.well(0, 2) * 10 + x.well(0, 3), 0);
        x.tide(30, 1);
        Check.due("behind 26 tides, it draws again", x.well(0, 2) * 10 + x.well(0, 3), 200);
        SaltWedge y = with40();
        y.setRate(0, 21);
        y.tide(0, 26);
        Check.due("from 51 to 1", y.well(0, 2) * 10 + y.well(0, 3), 11);
        y.tide(0, 1);
        Check.due("from 1 to 0", y.well(0, 2) * 10 + y.well(0, 3), 0);

        Doc.says("a well that rests draws nothing, gets rid of 2 of its salt in each tide, and its rate does not count "
            + "for others.");
        SaltWedge z = with40();
        z.setRate(0, 20);
        z.sink(1, 3);
        Check.due("before: the cone shares", z.well(0, 4), 17);
        Check.due("before: that of the other one too", z.well(1, 4), 0);
        z.tide(3, 1);
        Check.due("at rest", z.well(0, 2) * 10 + z.well(0, 3), 501);
        Check.due("at rest: cone", z.well(0, 4), 0);
        Check.due("at rest: the other one does not share", z.well(1, 4), 3);
        z.tide(30, 24);
        Check.due("at rest: salt", z.well(0, 2), 2);
        Check.due("at rest: water", z.well(0, 5), 80);
        Check.due("at rest: the water of the other one", z.well(1, 5), 75);
        z.tide(0, 1);
        Check.due("rested: salt", z.well(0, 2), 0);
        Check.due("rested: water", z.well(0, 5), 80);
        Check.due("rested: cone", z.well(0, 4), 17);
        Check.due("rested: the other one shares", z.well(1, 4), 0);
        z.tide(0, 10);
        Check.due("a second time: rests", z.well(0, 3), 1);
        Check.due("a second time: turned", z.well(0, 6), 2);
        SaltWedge w = with40();
        w.setRate(0, 20);
        w.tide(0, 1);
        w.set(2, 1);
        w.build(0, 20);
        w.tide(0, 1);
        Check.due("at rest: a wedge of 9, of which nothing is left", w.cell(0, 2), 9);
        Check.due("at rest: it gets none of it", w.well(0, 2), 48);
    }

    private static void allAtOnce() {
        Doc.says("(In a tide those count as resting that rest at its beginning;");
        SaltWedge x = new SaltWedge();
        x.set(1, 0);
        x.set(2, 60);
        x.sink(3, 30);
        x.tide(30, 1);
        x.setRate(0, 21);
        x.sink(4, 1);
        x.tide(30, 1);
        Check.due("it turned", x.well(0, 2) * 10 + x.well(0, 3), 501);
        Check.due("it still counted", x.well(1, 2), 0);
        x.tide(30, 24);
        Check.due("it rests", x.well(0, 2) * 10 + x.well(0, 3), 21);
        Check.due("it does not count", x.well(1, 2), 24);
        x.tide(30, 1);
        Check.due("it has rested", x.well(0, 2) * 10 + x.well(0, 3), 0);
        Check.due("it did not count yet", x.well(1, 2), 25);
        x.tide(30, 1);
        Check.due("it draws", x.well(0, 2), 20);
        Check.due("it counts", x.well(1, 2), 23);

        Doc.says("all wells draw at once.)");
        for (int first = 3; first <= 4; first++) {
            SaltWedge y = new SaltWedge();
            y.set(1, 0);
            y.set(2, 60);
            y.sink(first, 25);
            y.sink(7 - first, 25);
            y.tide(30, 1);
            Check.due("from " + first + ": no cone, no salt", y.count(6), 0);
            y.setRate(0, 26);
            y.tide(30, 1);
            Check.due("from " + first + ": a cone of 1 and one of 0", y.well(0, 2) * 100 + y.well(1, 2), 100);
            twoTurn(first);
        }
    }

    /** Two beside each other, without cones, turn in one tide, whichever came first. */
    private static void twoTurn(int first) {
        SaltWedge x = new SaltWedge();
        x.set(1, 0);
        x.set(2, 60);
        x.sink(first, 30);
        x.sink(7 - first, 30);
        x.tide(30, 1);
        x.set(2, 1);
        x.build(3, 20);
        x.build(4, 20);
        x.tide(30, 2);
        Check.due("from " + first + ": salt", x.well(0, 2) * 100 + x.well(1, 2), 3737);
        x.tide(30, 1);
        Check.due("from " + first + ": none counts as resting yet", x.well(0, 2) * 100 + x.well(1, 2), 5454);
        Check.due("from " + first + ": both turn", x.count(5), 2);
    }

    private static void sink() {
        Doc.section("Promise 6: sink");
        Doc.says("`int sink(int cell, int rate)`: Sinks a well.");
        SaltWedge x = new SaltWedge();
        x.sink(17, 12);
        Check.due("its cell", x.well(0, 0), 17);
        Check.due("its rate", x.well(0, 1), 12);
        Check.due("the well beside", x.cell(17, 3), 0);
        for (int what : NOTHING_AT_FIRST) {
            Check.due("well(0, " + what + ")", x.well(0, what), 0);
        }

        sinkEach();

        Doc.says("This is an act.");
        Check.act("sink(20, 5)", Check::fresh, y -> y.sink(20, 5), 0);
        Check.act("sink(20, 5) of some", Check::some, y -> y.sink(20, 5), 4);

        Doc.says("- `cell`: 0 to 39");
        Check.act("sink(0, 5)", Check::some, y -> y.sink(0, 5), 4);
        Check.act("sink(39, 5)", Check::some, y -> y.sink(39, 5), 4);
        Check.refusedBeyond("sink(.., 5)", (y, cell) -> y.sink(cell, 5), 0, 39, SaltWedge.UNKNOWN);

        Doc.says("- `rate`: 1 to 30");
        Check.act("sink(20, 1)", Check::some, y -> y.sink(20, 1), 4);
        Check.act("sink(20, 30)", Check::some, y -> y.sink(20, 30), 4);
        Check.refusedBeyond("sink(20, ..)", (y, rate) -> y.sink(20, rate), 1, 30, SaltWedge.BAD_VALUE);
    }

    /** Of `some`, the wells beside 6 and 12 have a cone that a new one can make less. */
    private static void sinkEach() {
        SaltWedge some = Check.made(Check::some);
        for (int cell = 0; cell < 40; cell++) {
            for (int each = 1; each <= 30; each++) {
                int beside = cell;
                int rate = each;
                String what = "sink(" + cell + ", " + rate + ")";
                if (some.cell(cell, 3) != SaltWedge.NONE) {
                    Check.changes(what, x -> x.sink(beside, rate), SaltWedge.NOT_POSSIBLE);
                    continue;
                }
                List<String> changed = new ArrayList<>(List.of("cell(" + cell + ", 3)", "count(4)"));
                for (int told = 0; told <= 6; told++) {
                    changed.add("well(4, " + told + ")");
                }
                if (cell == 7) {
                    changed.add("well(2, 4)");
                } else if (cell == 11 || cell == 13) {
                    changed.add("well(3, 4)");
                }
                Check.changes(what, x -> x.sink(beside, rate), 4, changed.toArray(new String[0]));
            }
        }
    }

    private static void sinkErrors() {
        Doc.says("Returns its number;");
        SaltWedge x = new SaltWedge();
        for (int number = 0; number < 6; number++) {
            Check.due("sink beside " + 5 * number, x.sink(5 * number, 30 - number), number);
            Check.due("count(4)", x.count(4), number + 1);
        }

        Doc.says("UNKNOWN;");
        Check.refused("sink(40, 0) of six", Check::sixWells, y -> y.sink(40, 0), SaltWedge.UNKNOWN);
        Check.refused("sink(-1, 5) of six", Check::sixWells, y -> y.sink(-1, 5), SaltWedge.UNKNOWN);
        Check.refused("sink(-1, 31)", Check::fresh, y -> y.sink(-1, 31), SaltWedge.UNKNOWN);

        Doc.says("BAD_VALUE;");
        Check.refused("sink(3, 31) beside one of six", Check::sixWells, y -> y.sink(3, 31), SaltWedge.BAD_VALUE);
        Check.refused("sink(1, 0) of six", Check::sixWells, y -> y.sink(1, 0), SaltWedge.BAD_VALUE);
        Check.refused("sink(1, 0) beside one", Check::some, y -> y.sink(1, 0), SaltWedge.BAD_VALUE);

        Doc.says("NOT_POSSIBLE if there is one beside this cell;");
        Check.refused("sink(3, 5) beside one of six", Check::sixWells, y -> y.sink(3, 5), SaltWedge.NOT_POSSIBLE);
        Check.refused("sink(15, 5) beside the last of six", Check::sixWells, y -> y.sink(15, 5),
            SaltWedge.NOT_POSSIBLE);
        Check.refused("sink(1, 30) beside one that rests", Check::some, y -> y.sink(1, 30), SaltWedge.NOT_POSSIBLE);
        Check.act("sink(2, 30) next to it", Check::some, y -> y.sink(2, 30), 4);

        Doc.says("FULL if there are 6.");
        Check.refused("sink(1, 5) of six", Check::sixWells, y -> y.sink(1, 5), SaltWedge.FULL);
        Check.act("sink(1, 5) of five", y -> {
            Check.sixWells(y);
            y.fillIn(2);
        }, y -> y.sink(1, 5), 5);
        Check.act("sink(6, 5), where one of six was", y -> {
            Check.sixWells(y);
            y.fillIn(2);
        }, y -> y.sink(6, 5), 5);
    }

    private static void fillIn() {
        Doc.section("Promise 7: fillIn");
        Doc.says("`int fillIn(int well)`: Fills a well in.");
        SaltWedge x = Check.made(Check::sixWells);
        x.dig(6, 1);
        x.tide(30, 4);
        int[] salts = new int[6];
        for (int well = 0; well < 6; well++) {
            salts[well] = x.well(well, 2);
        }
        x.fillIn(2);
        Check.due("count(4)", x.count(4), 5);
        for (int well = 0; well < 5; well++) {
            int before = well < 2 ? well : well + 1;
            Check.due("cell of " + well, x.well(well, 0), 3 * before);
            Check.due("rate of " + well, x.well(well, 1), before + 1);
            Check.due("salt of " + well, x.well(well, 2), salts[before]);
            Check.due("water of " + well, x.well(well, 5), 4 * (before + 1));
        }
        Check.due("water of those there", x.count(7), 4 * (1 + 2 + 4 + 5 + 6));
        Check.due("a new one", x.sink(6, 9), 5);
        for (int what : NOTHING_AT_FIRST) {
            Check.due("the new one has nothing of an old one", x.well(5, what), 0);
        }
        fillInThoseThatRest();
        Check.changes("fillIn(3), the last one", y -> y.fillIn(3), 12, "cell(12, 3)", "count(4)", "count(6)", "count(7)",
            "well(3, 0)", "well(3, 1)", "well(3, 2)", "well(3, 3)", "well(3, 4)", "well(3, 5)", "well(3, 6)");

        Doc.says("This is an act.");
        Check.act("fillIn(2) of one", y -> y.sink(9, 9), y -> y.fillIn(0), 0);
        Check.act("fillIn(2) of some", Check::some, y -> y.fillIn(2), 0);

        Doc.says("- `well`: a well");
        Check.act("fillIn(0)", Check::some, y -> y.fillIn(0), 56);
        Check.act("fillIn(3)", Check::some, y -> y.fillIn(3), 12);
        Check.act("fillIn(5) of six", Check::sixWells, y -> y.fillIn(5), 0);

        Doc.says("Returns its salt;");
        SaltWedge z = Check.made(Check::some);
        Check.due("fillIn(0), one that rests", z.fillIn(0), 56);
        Check.due("fillIn(2), one with salt", z.fillIn(2), 12);
        Check.due("fillIn(1), one without", z.fillIn(1), 0);
        Check.due("fillIn(0), the last one", z.fillIn(0), 0);

        Doc.says("UNKNOWN.");
        Check.due("fillIn(0) without wells", z.fillIn(0), SaltWedge.UNKNOWN);
        Check.refusedBeyond("fillIn(..)", SaltWedge::fillIn, 0, 3, SaltWedge.UNKNOWN);
        Check.refused("fillIn(6) of six", Check::sixWells, y -> y.fillIn(6), SaltWedge.UNKNOWN);
        Check.refused("fillIn(0) of none", Check::fresh, y -> y.fillIn(0), SaltWedge.UNKNOWN);
    }

    /** A well takes all with it that it had, and those behind it keep what they have. */
    private static void fillInThoseThatRest() {
        SaltWedge x = new SaltWedge();
        x.set(1, 0);
        x.set(2, 60);
        for (int number = 0; number < 6; number++) {
            x.sink(3 * number, number % 2 == 0 ? 30 : 1);
        }
        x.tide(30, 2);
        Check.due("salt of the first", x.fillIn(0), 60);
        int[] rests = {0, 1, 0, 1, 0};
        for (int number = 0; number < 5; number++) {
            Check.due("rests " + number, x.well(number, 3), rests[number]);
            Check.due("turned " + number, x.well(number, 6), rests[number]);
            Check.due("salt of " + number, x.well(number, 2), rests[number] == 1 ? 60 : 2);
        }
        x.sink(16, 9);
        Check.due("shared with the last one", x.well(4, 4), 0);
        Check.due("the last one shares", x.well(5, 4), 8);
        x.fillIn(1);
        x.setRate(3, 20);
        Check.due("the last one counts once", x.well(3, 4), 11);
        x.fillIn(4);
        x.fillIn(3);
        Check.due("the last one rests", x.well(2, 3), 1);
        x.fillIn(2);
        x.sink(12, 5);
        x.sink(1, 5);
        for (int what : NOTHING_AT_FIRST) {
            Check.due("in the place of one that rested", x.well(2, what), 0);
            Check.due("in the place of one with salt", x.well(3, what), 0);
        }
        SaltWedge y = new SaltWedge();
        y.set(1, 0);
        y.set(2, 60);
        for (int number = 0; number < 6; number++) {
            y.sink(3 * number, 30);
        }
        y.tide(30, 2);
        Check.due("six that rest", y.count(5), 6);
        y.fillIn(3);
        Check.due("five that rest", y.count(5), 5);
        y.sink(1, 5);
        for (int what : NOTHING_AT_FIRST) {
            Check.due("in the place of the last of six", y.well(5, what), 0);
        }
    }

    private static void setRate() {
        Doc.section("Promise 8: setRate");
        Doc.says("`int setRate(int well, int rate)`: Sets the rate of a well.");
        SaltWedge x = Check.made(Check::some);
        x.setRate(2, 12);
        Check.due("the rate", x.well(2, 1), 12);
        Check.due("the cone", x.well(2, 4), 8);
        Check.due("another one", x.well(1, 1), 4);
        x.setRate(0, 7);
        Check.due("one that rests: the rate", x.well(0, 1), 7);
        Check.due("one that rests: it rests", x.well(0, 3), 1);
        Check.due("one that rests: its salt", x.well(0, 2), 56);
        for (int each = 1; each <= 30; each++) {
            int rate = each;
            if (rate != 30) {
                Check.changes("setRate(0, " + rate + "), at rest", y -> y.setRate(0, rate), 30, "well(0, 1)");
            }
            if (rate != 15) {
                Check.changes("setRate(3, " + rate + ")", y -> y.setRate(3, rate), 15, "well(3, 1)", "well(3, 4)");
            }
        }

        Doc.says("This is an act.");
        Check.act("setRate(0, 5)", y -> y.sink(9, 9), y -> y.setRate(0, 5), 9);
        Check.act("setRate(3, 5) of some", Check::some, y -> y.setRate(3, 5), 15);

        Doc.says("- `well`: a well");
        Check.act("setRate(0, 5) of some", Check::some, y -> y.setRate(0, 5), 30);
        Check.act("setRate(5, 5) of six", Check::sixWells, y -> y.setRate(5, 5), 6);
        Check.refusedBeyond("setRate(.., 5)", (y, well) -> y.setRate(well, 5), 0, 3, SaltWedge.UNKNOWN);

        Doc.says("- `rate`: 1 to 30");
        Check.act("setRate(2, 1)", Check::some, y -> y.setRate(2, 1), 9);
        Check.act("setRate(2, 30)", Check::some, y -> y.setRate(2, 30), 9);
        Check.refusedBeyond("setRate(2, ..)", (y, rate) -> y.setRate(2, rate), 1, 30, SaltWedge.BAD_VALUE);

        Doc.says("Returns the previous one;");
        Check.due("setRate(1, 30)", x.setRate(1, 30), 4);
        Check.due("setRate(1, 1)", x.setRate(1, 1), 30);
        Check.due("setRate(1, 2)", x.setRate(1, 2), 1);

        Doc.says("UNKNOWN;");
        Check.refused("setRate(4, 31)", Check::some, y -> y.setRate(4, 31), SaltWedge.UNKNOWN);
        Check.refused("setRate(-1, 0)", Check::some, y -> y.setRate(-1, 0), SaltWedge.UNKNOWN);
        Check.refused("setRate(6, 5) of six", Check::sixWells, y -> y.setRate(6, 5), SaltWedge.UNKNOWN);
        Check.refused("setRate(0, 5) of none", Check::fresh, y -> y.setRate(0, 5), SaltWedge.UNKNOWN);

        Doc.says("BAD_VALUE;");
        Check.refused("setRate(0, 0)", Check::some, y -> y.setRate(0, 0), SaltWedge.BAD_VALUE);
        Check.refused("setRate(0, 31)", Check::some, y -> y.setRate(0, 31), SaltWedge.BAD_VALUE);

        Doc.says("NONE if it is so already.");
        Check.refused("setRate(2, 9)", Check::some, y -> y.setRate(2, 9), SaltWedge.NONE);
        Check.refused("setRate(0, 30), one that rests", Check::some, y -> y.setRate(0, 30), SaltWedge.NONE);
    }
}
