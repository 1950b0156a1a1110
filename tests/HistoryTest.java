/** The history, and promises 14 to 16: undo, keep, restore. */
public final class HistoryTest {
    /** Calls of a made object that are acts, and are done. */
    private static final Check.Call[] ACTS = {x -> x.dig(3, 60), x -> x.build(3, 4), x -> x.flow(7), x -> x.set(1, 2),
        x -> x.sink(20, 3), x -> x.fillIn(0), x -> x.setRate(0, 7), x -> x.tide(3, 2), x -> x.restore(),
        x -> Check.perform(x, "t3;r10")};
    /** The same, as calls that are refused. */
    private static final Check.Call[] REFUSED = {x -> x.dig(3, 61), x -> x.build(3, 21), x -> x.flow(100),
        x -> x.set(3, 2), x -> x.sink(1, 3), x -> x.fillIn(6), x -> x.setRate(6, 7), x -> x.tide(3, 100),
        x -> Check.perform(x, "t3;s3=60"), x -> Check.perform(x, "t")};
    /** The same, as calls of what is so already. */
    private static final Check.Call[] NONES = {x -> x.dig(3, 20), x -> x.build(3, 0), x -> x.flow(10), x -> x.set(1, 1),
        x -> x.setRate(1, 4)};
    /** Calls that are no acts. */
    private static final Check.Call[] NO_ACTS = {x -> x.type('t'), SaltWedge::clearText, x -> x.stopped(0),
        SaltWedge::keep, x -> x.cell(3, 2), x -> x.well(0, 2), SaltWedge::reach, x -> x.mark(0, 30),
        x -> x.stopCell(30), x -> x.reason(39, 0), x -> x.restsIn(2, 30), x -> x.leastFlow(0, 30),
        x -> x.bestSill(19, 30), x -> x.count(3)};

    public static void main(String[] args) {
        fourStates();
        whatIsRecorded();
        snapshotAndState();
        undo();
        keep();
        restore();
        Check.end();
    }

    /** What is left of `some` when its history has been undone: wells, a snapshot, a text and its stop. */
    private static void allUndone(SaltWedge x) {
        Check.some(x);
        for (int left = 0; left < 4; left++) {
            x.undo();
        }
    }

    private static void fourStates() {
        Doc.section("HISTORY");
        Doc.says("A history of at most 4 states is kept; when one more is recorded, the oldest one is dropped;");
        SaltWedge x = new SaltWedge();
        Check.due("at first: count(12)", x.count(12), 0);
        for (int flow = 1; flow <= 4; flow++) {
            x.flow(flow);
            Check.due("flow " + flow + ": count(12)", x.count(12), flow);
        }
        x.flow(5);
        Check.due("one more: count(12)", x.count(12), 4);
        for (int left = 3; left >= 0; left--) {
            Check.due("undo()", x.undo(), left);
            Check.due("undo(): the flow", x.count(1), left + 1);
        }
        Check.due("the oldest one was dropped", x.undo(), SaltWedge.NONE);
        Check.due("the oldest one was dropped: the flow", x.count(1), 1);
        SaltWedge y = new SaltWedge();
        for (int flow = 99; flow >= 50; flow--) {
            y.flow(flow);
        }
        for (int left = 3; left >= 0; left--) {
            Check.due("fifty: undo()", y.undo(), left);
            Check.due("fifty: the flow", y.count(1), 54 - left);
        }

        Doc.says("undo() removes and restores the latest one.");
        SaltWedge z = new SaltWedge();
        z.flow(1);
        z.dig(3, 5);
        z.tide(5, 2);
        Check.due("three: undo()", z.undo(), 2);
        Check.due("three: no tides", z.count(0), 0);
        Check.due("three: still dug", z.cell(3, 0), 5);
        z.sink(3, 3);
        Check.due("another act: undo()", z.undo(), 2);
        Check.due("another act: no well", z.count(4), 0);
        Check.due("two: undo()", z.undo(), 1);
        Check.due("two: not dug", z.cell(3, 0) * 100 + z.count(1), 2001);
        Check.due("one: undo()", z.undo(), 0);
        Check.due("one: the flow", z.count(1), 10);
    }

    private static void whatIsRecorded() {
        Doc.says("Each call of a method that is described as an act, and returns no error and not NONE, records the "
            + "state that was before it.");
        for (int number = 0; number < ACTS.length; number++) {
            Check.Call call = ACTS[number];
            SaltWedge x = Check.made(HistoryTest::allUndone);
            x.keep();
            Check.hold("act " + number + " is done", call.on(x) >= 0);
            Check.due("act " + number + ": count(12)", x.count(12), 1);
            Check.due("act " + number + ": undo()", x.undo(), 0);
            Check.same("act " + number + ": the state before", Check.state(x),
                Check.state(Check.made(HistoryTest::allUndone)));
        }
        notRecorded("a refused call", REFUSED);
        notRecorded("a call of what is so already", NONES);
        notRecorded("a call that is no act", NO_ACTS);
        SaltWedge x = new SaltWedge();
        x.restore();
        Check.due("restore() without a snapshot: count(12)", x.count(12), 0);
        Check.due("an act that changes nothing: restore()", x.keep() + x.restore(), 0);
        Check.due("an act that changes nothing: count(12)", x.count(12), 1);
    }

    private static void notRecorded(String what, Check.Call[] calls) {
        for (int number = 0; number < calls.length; number++) {
            SaltWedge empty = Check.made(HistoryTest::allUndone);
            calls[number].on(empty);
            Check.due(what + ", " + number + ": count(12)", empty.count(12), 0);
            Check.due(what + ", " + number + ": undo()", empty.undo(), SaltWedge.NONE);
            SaltWedge full = Check.made(Check::some);
            calls[number].on(full);
            Check.due(what + ", " + number + ", full: count(12)", full.count(12), 4);
            full.undo();
            Check.due(what + ", " + number + ", full: the latest one", full.cell(30, 0), 20);
        }
    }

    private static void snapshotAndState() {
        Doc.says("There is one snapshot, empty at first.");
        SaltWedge x = new SaltWedge();
        Check.due("empty at first", x.restore(), SaltWedge.NONE);
        x.tide(0, 3);
        x.keep();
        x.tide(0, 4);
        x.keep();
        x.tide(0, 5);
        Check.due("a snapshot that is taken again", x.restore(), 7);
        Check.due("there is no other one", x.restore(), 7);

        Doc.says("A state is everything but the text, the history, the snapshot and the latest stop.");
        SaltWedge y = Check.made(Check::some);
        y.keep();
        changeEverything(y);
        y.restore();
        Check.same("everything but those", Check.state(y), Check.state(Check.made(Check::some)));
        Check.act("several things at once", w -> {
            Check.some(w);
            Check.write(w, "t9*9;r3;s4=4;s9=0");
        }, SaltWedge::perform, 4);
        SaltWedge z = new SaltWedge();
        z.tide(9, 3);
        z.keep();
        z.flow(3);
        z.keep();
        Check.perform(z, "s2=60");
        z.type(';');
        Check.due("the history is not in a state", z.undo(), 1);
        Check.due("nor is the text", z.count(13), 6);
        Check.due("nor is the latest stop", z.stopped(1), SaltWedge.NOT_POSSIBLE);
        Check.due("nor is the snapshot", z.restore() * 100 + z.count(1), 303);
        Check.due("restore() leaves the text", z.count(13), 6);
        Check.due("restore() leaves the latest stop", z.stopped(0), 0);
        Check.due("restore() leaves the history, with one more", z.count(12), 2);
    }

    private static void changeEverything(SaltWedge x) {
        x.dig(1, 60);
        x.build(2, 3);
        x.flow(8);
        x.set(0, 21);
        x.set(1, 2);
        x.set(2, 6);
        x.sink(13, 3);
        x.fillIn(2);
        x.setRate(1, 5);
        x.tide(30, 30);
    }

    private static void undo() {
        Doc.section("Promise 14: undo");
        Doc.says("`int undo()`: Removes and restores the latest state of the history.");
        SaltWedge x = Check.made(Check::some);
        Check.due("undo()", x.undo(), 3);
        Check.due("not dug any more", x.cell(30, 0), 20);
        Check.due("removed", x.count(12), 3);
        Check.due("it records nothing: undo()", x.undo(), 2);
        Check.due("no tides any more", x.count(0), 0);

        Doc.says("Returns the number of states that are left;");
        SaltWedge y = new SaltWedge();
        y.flow(1);
        y.flow(2);
        Check.due("of two", y.undo(), 1);
        Check.due("of the last one", y.undo(), 0);
        Check.due("the last one", y.count(1), 10);

        Doc.says("NONE if the history is empty.");
        Check.refused("undo() at first", Check::fresh, SaltWedge::undo, SaltWedge.NONE);
        Check.refused("undo() behind the last one", HistoryTest::allUndone, SaltWedge::undo, SaltWedge.NONE);
        y.flow(70);
        Check.due("and on", y.undo(), 0);
        Check.due("and on: the flow", y.count(1), 10);
    }

    private static void keep() {
        Doc.section("Promise 15: keep");
        Doc.says("`int keep()`: Takes a snapshot of the state, in place of the one that was.");
        SaltWedge x = new SaltWedge();
        x.tide(9, 3);
        x.keep();
        x.tide(9, 4);
        x.keep();
        x.tide(9, 4);
        x.flow(4);
        Check.due("the later one", x.restore(), 7);
        Check.due("its flow", x.count(1), 10);
        Check.due("undo()", x.undo(), 3);
        Check.due("the snapshot stays behind undo()", x.restore(), 7);
        Check.due("tides", x.tide(30, 9), 20);
        Check.due("the snapshot is not changed by tides", x.restore(), 7);
        Check.due("it is no act", new SaltWedge().keep() + x.count(12), 4);
        Check.changes("keep()", SaltWedge::keep, 5);

        Doc.says("Returns how many tides there were so far.");
        SaltWedge y = new SaltWedge();
        Check.due("none", y.keep(), 0);
        y.tide(9, 3);
        Check.due("three", y.keep(), 3);
        y.tide(9, 99);
        Check.due("102", y.keep(), 102);
        y.undo();
        Check.due("three again", y.keep(), 3);
        Check.due("keep() records nothing", y.count(12), 1);
    }

    /** Nine tides in a bed of which nothing is as at first. */
    private static void ofNine(SaltWedge x) {
        x.sink(2, 29);
        x.sink(3, 7);
        x.sink(6, 4);
        x.set(0, 33);
        x.set(1, 2);
        x.set(2, 9);
        x.dig(1, 44);
        x.build(9, 11);
        x.flow(6);
        x.tide(9, 9);
    }

    private static void restore() {
        Doc.section("Promise 16: restore");
        Doc.says("`int restore()`: Restores the state of the snapshot, which stays.");
        SaltWedge kept = Check.made(HistoryTest::ofNine);
        kept.keep();
        changeEverything(kept);
        Check.write(kept, "t4");
        Check.due("restore()", kept.restore(), 9);
        Check.same("all is as it was", Check.state(kept), Check.state(Check.made(HistoryTest::ofNine)));
        kept.tide(3, 3);
        Check.due("it stays", kept.restore(), 9);

        Doc.says("This is an act.");
        Check.act("restore()", x -> {
            x.sink(2, 29);
            x.tide(9, 9);
            x.keep();
            x.fillIn(0);
            x.dig(30, 40);
            x.tide(-30, 9);
        }, SaltWedge::restore, 9);
        Check.act("restore() of some", Check::some, SaltWedge::restore, 5);
        Check.act("restore() of what is so already", SaltWedge::keep, SaltWedge::restore, 0);

        Doc.says("Returns how many tides there were so far then;");
        SaltWedge x = new SaltWedge();
        x.keep();
        x.tide(5, 8);
        Check.due("none", x.restore(), 0);
        Check.due("none: count(0)", x.count(0), 0);
        x.undo();
        x.keep();
        x.tide(5, 8);
        Check.due("eight", x.restore(), 8);

        Doc.says("NONE if there is no snapshot.");
        Check.refused("restore() at first", Check::fresh, SaltWedge::restore, SaltWedge.NONE);
        Check.refused("restore() behind tides", y -> y.tide(9, 9), SaltWedge::restore, SaltWedge.NONE);
        Check.refused("restore() of an emptied history", y -> {
            y.tide(9, 9);
            y.undo();
        }, SaltWedge::restore, SaltWedge.NONE);
    }
}
