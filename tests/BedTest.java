/** Promises 1 to 5: a new object, dig, build, flow, set. */
public final class BedTest {
    public static void main(String[] args) {
        newObject();
        dig();
        build();
        flow();
        set();
        Check.end();
    }

    /** Promise 1. */
    private static void newObject() {
        SaltWedge x = new SaltWedge();
        for (int cell = 0; cell < 40; cell++) {
            Check.due("new: cell(" + cell + ", 0)", x.cell(cell, 0), 20);
            Check.due("new: cell(" + cell + ", 1)", x.cell(cell, 1), 0);
            Check.due("new: cell(" + cell + ", 2)", x.cell(cell, 2), 0);
            Check.due("new: cell(" + cell + ", 3)", x.cell(cell, 3), SaltWedge.NONE);
            Check.due("new: cell(" + cell + ", 4)", x.cell(cell, 4), 0);
        }
        int[] counts = {0, 10, 0, 0, 0, 0, 0, 0, SaltWedge.NONE, 20, 1, 5, 0, 0};
        for (int what = 0; what < counts.length; what++) {
            Check.due("new: count(" + what + ")", x.count(what), counts[what]);
        }
        Check.due("new: reach()", x.reach(), SaltWedge.NONE);
        Check.due("new: well(0, 0)", x.well(0, 0), SaltWedge.UNKNOWN);
        Check.due("new: stopped(0)", x.stopped(0), SaltWedge.NONE);
        Check.due("new: undo()", x.undo(), SaltWedge.NONE);
        Check.due("new: restore()", x.restore(), SaltWedge.NONE);
        Check.due("new: clearText()", x.clearText(), 0);
    }

    /** Promise 2. */
    private static void dig() {
        Check.act("dig(3, 60)", x -> { }, x -> x.dig(3, 60), 20);
        Check.act("dig(0, 1)", x -> { }, x -> x.dig(0, 1), 20);
        Check.act("dig(39, 7)", x -> x.dig(39, 9), x -> x.dig(39, 7), 9);
        SaltWedge x = new SaltWedge();
        x.dig(12, 33);
        Check.due("dig: the cell", x.cell(12, 0), 33);
        Check.due("dig: the cell below", x.cell(11, 0), 20);
        Check.due("dig: the cell above", x.cell(13, 0), 20);

        Check.refused("dig(-1, 5)", BedTest::some, y -> y.dig(-1, 5), SaltWedge.UNKNOWN);
        Check.refused("dig(40, 5)", BedTest::some, y -> y.dig(40, 5), SaltWedge.UNKNOWN);
        Check.refused("dig(40, 0)", BedTest::some, y -> y.dig(40, 0), SaltWedge.UNKNOWN);
        Check.refused("dig(MIN, MIN)", BedTest::some, y -> y.dig(Integer.MIN_VALUE, Integer.MIN_VALUE),
                SaltWedge.UNKNOWN);
        Check.refused("dig(0, 0)", BedTest::some, y -> y.dig(0, 0), SaltWedge.BAD_VALUE);
        Check.refused("dig(0, 61)", BedTest::some, y -> y.dig(0, 61), SaltWedge.BAD_VALUE);
        Check.refused("dig(0, MAX)", BedTest::some, y -> y.dig(0, Integer.MAX_VALUE), SaltWedge.BAD_VALUE);
        Check.refused("dig under the wedge", BedTest::some, y -> y.dig(0, 9), SaltWedge.NOT_POSSIBLE);
        Check.refused("dig under the sill", BedTest::some, y -> y.dig(20, 7), SaltWedge.NOT_POSSIBLE);
        Check.refused("dig as it is", BedTest::some, y -> y.dig(5, 20), SaltWedge.NONE);
        Check.act("dig to the wedge", BedTest::some, y -> y.dig(0, 10), 20);
        Check.act("dig to the sill", BedTest::some, y -> y.dig(20, 8), 20);
    }

    /** A wedge of 10 in the cell 0, a sill of 8 in the cell 20, a snapshot, a text, a stop. */
    private static void some(SaltWedge x) {
        x.tide(0, 2);
        x.keep();
        x.sink(1, 12);
        Check.perform(x, "s0=60");
        x.build(20, 8);
    }

    /** Promise 3. */
    private static void build() {
        Check.act("build(3, 20)", x -> { }, x -> x.build(3, 20), 0);
        Check.act("build(20, 0)", BedTest::some, x -> x.build(20, 0), 8);
        Check.act("build(39, 60)", x -> x.dig(39, 60), x -> x.build(39, 60), 0);
        Check.act("build under the wedge", BedTest::some, x -> x.build(0, 3), 0);
        SaltWedge x = new SaltWedge();
        x.build(12, 13);
        Check.due("build: the cell", x.cell(12, 1), 13);
        Check.due("build: the cell below", x.cell(11, 1), 0);
        Check.due("build: the cell above", x.cell(13, 1), 0);
        Check.due("build: a lower one", x.build(12, 4), 13);
        Check.due("build: the lower one", x.cell(12, 1), 4);

        Check.refused("build(-1, 5)", BedTest::some, y -> y.build(-1, 5), SaltWedge.UNKNOWN);
        Check.refused("build(40, 61)", BedTest::some, y -> y.build(40, 61), SaltWedge.UNKNOWN);
        Check.refused("build(0, -1)", BedTest::some, y -> y.build(0, -1), SaltWedge.BAD_VALUE);
        Check.refused("build(0, 61)", BedTest::some, y -> y.build(0, 61), SaltWedge.BAD_VALUE);
        Check.refused("build(0, 21)", BedTest::some, y -> y.build(0, 21), SaltWedge.NOT_POSSIBLE);
        Check.refused("build(20, 8)", BedTest::some, y -> y.build(20, 8), SaltWedge.NONE);
        Check.refused("build(0, 0)", BedTest::some, y -> y.build(0, 0), SaltWedge.NONE);
    }

    /** Promise 4. */
    private static void flow() {
        Check.act("flow(0)", BedTest::some, x -> x.flow(0), 10);
        Check.act("flow(99)", x -> x.flow(0), x -> x.flow(99), 0);
        SaltWedge x = new SaltWedge();
        x.flow(17);
        Check.due("flow: count(1)", x.count(1), 17);
        Check.due("flow: mark(0, 0)", x.mark(0, 0), 3);
        Check.refused("flow(-1)", BedTest::some, y -> y.flow(-1), SaltWedge.BAD_VALUE);
        Check.refused("flow(100)", BedTest::some, y -> y.flow(100), SaltWedge.BAD_VALUE);
        Check.refused("flow(10)", BedTest::some, y -> y.flow(10), SaltWedge.NONE);
    }

    /** Promise 5. */
    private static void set() {
        Check.act("set(0, 60)", BedTest::some, x -> x.set(0, 60), 20);
        Check.act("set(0, 0)", BedTest::some, x -> x.set(0, 0), 20);
        Check.act("set(1, 9)", BedTest::some, x -> x.set(1, 9), 1);
        Check.act("set(1, 0)", BedTest::some, x -> x.set(1, 0), 1);
        Check.act("set(2, 60)", BedTest::some, x -> x.set(2, 60), 5);
        Check.act("set(2, 1)", BedTest::some, x -> x.set(2, 1), 5);
        SaltWedge x = new SaltWedge();
        x.set(0, 31);
        x.set(1, 2);
        x.set(2, 7);
        Check.due("set: count(9)", x.count(9), 31);
        Check.due("set: count(10)", x.count(10), 2);
        Check.due("set: count(11)", x.count(11), 7);
        Check.due("set: mark(1, 0)", x.mark(1, 0), 18);
        x.tide(0, 1);
        Check.due("set: cell(0, 2)", x.cell(0, 2), 7);

        Check.refused("set(-1, 5)", BedTest::some, y -> y.set(-1, 5), SaltWedge.UNKNOWN);
        Check.refused("set(3, -1)", BedTest::some, y -> y.set(3, -1), SaltWedge.UNKNOWN);
        Check.refused("set(0, -1)", BedTest::some, y -> y.set(0, -1), SaltWedge.BAD_VALUE);
        Check.refused("set(0, 61)", BedTest::some, y -> y.set(0, 61), SaltWedge.BAD_VALUE);
        Check.refused("set(1, -1)", BedTest::some, y -> y.set(1, -1), SaltWedge.BAD_VALUE);
        Check.refused("set(1, 10)", BedTest::some, y -> y.set(1, 10), SaltWedge.BAD_VALUE);
        Check.refused("set(2, 0)", BedTest::some, y -> y.set(2, 0), SaltWedge.BAD_VALUE);
        Check.refused("set(2, 61)", BedTest::some, y -> y.set(2, 61), SaltWedge.BAD_VALUE);
        Check.refused("set(0, 20)", BedTest::some, y -> y.set(0, 20), SaltWedge.NONE);
        Check.refused("set(1, 1)", BedTest::some, y -> y.set(1, 1), SaltWedge.NONE);
        Check.refused("set(2, 5)", BedTest::some, y -> y.set(2, 5), SaltWedge.NONE);
    }
}
