/** What the document begins with: each thing that it names, by calls that show it. */
public final class WhatItIsTest {
    public static void main(String[] args) {
        Doc.section("What it is");
        Doc.leaves("Saltwater wedge under a river mouth with tides, sills and wells:");
        bedAndRiver();
        wedge();
        wells();
        droughtsAndGates();
        reasons();
        sought();
        texts();
        accounts();
        history();
        calls();
        Check.end();
    }

    private static void bedAndRiver() {
        Doc.says("a river bed of cells from the sea upward,");
        SaltWedge x = new SaltWedge();
        x.tide(0, 1);
        Check.hold("salt water comes from the sea", x.cell(0, 2) > 0);
        x.tide(0, 9);
        for (int cell = 1; cell < 40; cell++) {
            Check.hold("there is no more of it in " + cell + " than below", x.cell(cell, 2) <= x.cell(cell - 1, 2));
        }

        Doc.says("fresh water that flows down over a wedge of salt water,");
        int before = x.mark(3, 0);
        x.flow(12);
        Check.due("2 more of it leave 2 less", x.mark(3, 0), before - 2);
    }

    private static void wedge() {
        Doc.says("tides that push and draw it,");
        SaltWedge x = new SaltWedge();
        x.tide(5, 3);
        Check.due("pushed", x.cell(0, 2), 15);
        x.tide(-5, 2);
        Check.due("drawn", x.cell(0, 2), 5);

        Doc.says("sills that stop it,");
        x.build(2, 9);
        Check.due("stopped", x.stopCell(0), 2);
        Check.due("not stopped", x.stopCell(2), 12);

        Doc.says("how far the wedge reaches,");
        x.tide(0, 1);
        Check.due("to the sill", x.reach(), 1);
        x.tide(2, 1);
        Check.due("over the sill", x.reach(), 11);
    }

    private static void wells() {
        Doc.says("wells in the bank that draw water and suck salt up in cones,");
        SaltWedge x = new SaltWedge();
        x.set(2, 60);
        x.sink(4, 20);
        Check.due("its cone", x.well(0, 4), 20);
        x.tide(0, 3);
        Check.due("its water", x.well(0, 5), 60);
        Check.due("its salt", x.well(0, 2), 18);
        Check.due("there is no salt water as high", x.cell(4, 2), 6);
    }

    private static void droughtsAndGates() {
        Doc.says("droughts in which the wedge creeps upward,");
        SaltWedge x = new SaltWedge();
        x.tide(0, 9);
        int reach = x.reach();
        x.set(2, 1);
        x.flow(2);
        for (int tides = 1; tides <= 3; tides++) {
            int height = x.cell(8, 2);
            x.tide(0, 1);
            Check.hold("it is higher behind " + tides + " tides", x.cell(8, 2) > height);
        }
        Check.due("it reaches farther", x.reach(), reach + 8);

        Doc.says("gates that are shut,");
        x.build(5, 20);
        Check.due("shut for every tide", x.stopCell(30), 5);
        x.tide(30, 20);
        Check.due("no salt water behind the gate", x.reach(), 4);
        x.build(5, 0);
        Check.due("open again", x.stopCell(30), 20);

        Doc.says("wells that turn salt and rest,");
        SaltWedge y = new SaltWedge();
        y.sink(0, 30);
        y.tide(10, 3);
        Check.due("it turned salt", y.well(0, 6), 1);
        Check.due("it rests", y.well(0, 3), 1);
        y.tide(10, 99);
        Check.hold("it rests again and again", y.well(0, 6) > 1);
    }

    private static void reasons() {
        Doc.says("why a cell or a well is salt,");
        SaltWedge x = new SaltWedge();
        Check.due("it is salt", x.reason(9, 0), 0);
        Check.due("the river keeps it out", x.reason(9, -10), 1);
        x.build(6, 4);
        Check.due("a sill keeps it out", x.reason(9, 0), 2);
        Check.due("it ran out", x.reason(5, -5), 3);
        x.sink(3, 15);
        x.tide(0, 2);
        int together = x.cell(3, 2) + x.well(0, 4);
        Check.due("a well: the wedge and its cone, above the depth", x.well(0, 2), together - x.cell(3, 0));

        Doc.says("the tide at which a well turns salt,");
        int tide = x.restsIn(0, 0);
        x.tide(0, tide - 1);
        Check.due("not yet", x.well(0, 3), 0);
        x.tide(0, 1);
        Check.due("with this one", x.well(0, 3), 1);
    }

    private static void sought() {
        Doc.says("the least river that keeps the wedge out,");
        SaltWedge x = new SaltWedge();
        int flow = x.leastFlow(0, 7);
        x.flow(flow);
        Check.due("it is kept out", x.tide(7, 9), 0);
        x.flow(flow - 1);
        Check.due("it is not kept out by less", x.tide(7, 9), 1);

        Doc.says("the best place of a sill,");
        SaltWedge y = new SaltWedge();
        int best = y.bestSill(4, 0);
        y.build(best, 4);
        Check.due("stopped there", y.stopCell(0), best);
        y.build(best, 0);
        y.build(best - 1, 4);
        Check.due("not stopped one cell below", y.stopCell(0), 10);
    }

    private static void texts() {
        Doc.says("tides that are read from a text with the places of faults and the causes of stops,");
        SaltWedge x = new SaltWedge();
        Check.due("a text", Check.perform(x, "t5*3;r4;s2=7"), 3);
        Check.due("its tides", x.count(0), 3);
        Check.due("the place of a fault", Check.perform(x, "t5*3;r4,s2=7"), -100 - 7);
        Check.due("a stop", Check.perform(x, "t5*3;r4;s2=21"), SaltWedge.NOT_POSSIBLE);
        Check.due("its place", x.stopped(0), 2);
        Check.due("its cause", x.stopped(1), SaltWedge.NOT_POSSIBLE);
    }

    private static void accounts() {
        Doc.says("accounts that add up,");
        addUp("at first", new SaltWedge());
        SaltWedge x = Check.made(Check::some);
        addUp("of some", x);
        x.fillIn(0);
        addUp("without a well", x);
        x.tide(30, 9);
        addUp("behind tides", x);
        x.restore();
        addUp("restored", x);
        x.undo();
        addUp("undone", x);
        addUp("of six wells", Check.made(Check::sixWells));
    }

    /** What count() and reach() tell is what cell() and well() tell of each. */
    private static void addUp(String what, SaltWedge x) {
        int[] sums = new int[8];
        int reach = SaltWedge.NONE;
        for (int cell = 0; cell < 40; cell++) {
            int height = x.cell(cell, 2);
            sums[2] += height > 0 ? 1 : 0;
            sums[3] += height;
            sums[4] += x.cell(cell, 3) == SaltWedge.NONE ? 0 : 1;
            reach = height > 0 ? cell : reach;
        }
        for (int well = 0; well < sums[4]; well++) {
            sums[5] += x.well(well, 3);
            sums[6] += x.well(well, 2);
            sums[7] += x.well(well, 5);
        }
        for (int account = 2; account < sums.length; account++) {
            Check.due(what + ": count(" + account + ")", x.count(account), sums[account]);
        }
        Check.due(what + ": reach()", x.reach(), reach);
    }

    private static void history() {
        Doc.says("undo and a snapshot.");
        SaltWedge x = new SaltWedge();
        x.tide(0, 2);
        x.keep();
        x.tide(30, 9);
        x.undo();
        Check.due("undone", x.count(0), 2);
        x.tide(30, 9);
        x.flow(99);
        x.restore();
        Check.due("the tides of the snapshot", x.count(0), 2);
        Check.due("the flow of the snapshot", x.count(1), 10);
    }

    private static void calls() {
        Doc.says("An object is used for at most 512 calls after it has been made; what later calls answer is free.");
        SaltWedge x = new SaltWedge();
        for (int call = 1; call <= 511; call++) {
            Check.due("call " + call, x.tide(0, 99), 10);
        }
        Check.due("the call 512", x.count(0), 511 * 99);
    }
}
