/** Promises 10 to 13: type, clearText, perform, stopped. */
public final class TextsTest {
    public static void main(String[] args) {
        type();
        clearText();
        faults();
        perform();
        performStops();
        stopped();
        Check.end();
    }

    /** Promise 10. */
    private static void type() {
        SaltWedge x = new SaltWedge();
        char[] any = {'t', (char) 0, (char) 65535, ' ', 'T', (char) 233, '\n'};
        for (int at = 0; at < 60; at++) {
            Check.due("type, the " + (at + 1) + "th", x.type(any[at % any.length]), at + 1);
            Check.due("type: count(13)", x.count(13), at + 1);
        }
        Check.due("type: no act", x.count(12), 0);
        Check.due("the fault of it", x.perform(), -101);
        Check.refused("type, the 61st", y -> Check.write(y, "t".repeat(60)), y -> y.type('t'), SaltWedge.FULL);
        SaltWedge z = new SaltWedge();
        Check.write(z, "t0*99;t0*99;t0*99;t0*99;t0*99;t0*99;t0*99;t0*99;t0*99;t-1*9");
        Check.due("a text of 59 characters", z.count(13), 59);
        Check.due("the last one", z.type('8'), 60);
        Check.due("one more", z.type('8'), SaltWedge.FULL);
        Check.due("a text of 60 characters", z.perform(), 10);
        Check.due("its tides", z.count(0), 989);
    }

    /** Promise 11. */
    private static void clearText() {
        SaltWedge x = new SaltWedge();
        Check.due("clearText of nothing", x.clearText(), 0);
        Check.write(x, "t5;r3");
        Check.due("clearText", x.clearText(), 5);
        Check.due("clearText: count(13)", x.count(13), 0);
        Check.due("clearText: no act", x.count(12), 0);
        Check.due("clearText: again", x.clearText(), 0);
        Check.due("the empty text", x.perform(), -100);
        x.type('r');
        Check.due("clearText: nothing of the old text", x.perform(), -101);
        Check.write(x, "t".repeat(60));
        Check.due("clearText of all", x.clearText(), 60);
        Check.due("clearText makes room", x.type('t'), 1);
    }

    /** The faults of promise 12, with the index of each. */
    private static void faults() {
        String[] texts = {"", "t", "t-", "t--1", "t+1", "t31", "t40", "t300", "t05", "t00", "t-00", "t-31", "t-30*",
            "t5*0", "t5*05", "t5*100", "t5*99*", "t5*-1", "t*5", "t5**5", "t5;", "t5;;", ";t5", ";", "T5", "t 5", " t5",
            "r", "r-1", "r100", "r00", "r07", "r990", "r5*2", "r5=3", "r5;r", "s", "s5", "s5=", "s=5", "s40=1", "s-1=1",
            "s05=1", "s5=61", "s5=-1", "s5=00", "s5=600", "s5=5*2", "s5==5", "s39=60t", "s390=1", "x", "t5x", "t5;x",
            "t5;r5;s5;t5", "t1t1", "5", "t30*9;r9;t3;s9=6;s9=7;r", "t\uff11", "t\u0661", "t5;r99;s39=60;t-30*99;"};
        int[] indices = {0, 1, 2, 2, 1, 2, 2, 3, 2, 2, 3, 3, 5,
            3, 3, 5, 5, 3, 1, 3, 3, 3, 0, 0, 0, 1, 0,
            1, 1, 3, 2, 2, 3, 2, 2, 4, 1, 2, 3, 1, 2, 1,
            2, 4, 3, 4, 5, 4, 3, 6, 3, 0, 2, 3,
            8, 2, 0, 23, 1, 1, 22};
        for (int at = 0; at < texts.length; at++) {
            String text = texts[at];
            Check.refused("perform of " + text, x -> {
                x.sink(2, 9);
                x.tide(9, 2);
                x.keep();
                Check.perform(x, "t3;s2=21");
                Check.write(x, text);
            }, SaltWedge::perform, -100 - indices[at]);
        }
        SaltWedge x = new SaltWedge();
        Check.due("20 things and too early", Check.perform(x, "t0;".repeat(20)), -160);
        Check.due("20 things", Check.perform(x, "t0;".repeat(19) + "t0"), 20);
        Check.due("20 things, one with another character", Check.perform(x, "t0;".repeat(19) + "t01"), -159);
        Check.due("20 things, the last longer", Check.perform(x, "t0;".repeat(19) + "t11"), 20);
        Check.due("30 characters t", Check.perform(x, "t".repeat(60)), -101);
    }

    /** Promise 12. */
    private static void perform() {
        Check.act("perform of a tide", x -> Check.write(x, "t9"), SaltWedge::perform, 1);
        Check.act("perform of what is so already", x -> Check.write(x, "r10;s0=0"), SaltWedge::perform, 2);
        Check.act("perform of everything", x -> {
            x.sink(2, 9);
            x.tide(9, 9);
            Check.write(x, "t0;t-0*1;t30*99;r0;r99;s0=0;s39=20;t-30*9;t29;t-10");
        }, SaltWedge::perform, 10);

        SaltWedge told = new SaltWedge();
        SaltWedge done = new SaltWedge();
        told.sink(3, 14);
        done.sink(3, 14);
        Check.due("perform", Check.perform(told, "t12*7;r4;s9=13;t-5;s0=20;t30*2;s0=0;r4;t1*10"), 9);
        done.tide(12, 7);
        done.flow(4);
        done.build(9, 13);
        done.tide(-5, 1);
        done.build(0, 20);
        done.tide(30, 2);
        done.build(0, 0);
        done.tide(1, 10);
        Check.same("perform does what the calls do", Check.state(told), Check.state(done));
        Check.due("perform is one act", told.count(12), 2);
        Check.due("perform: the text stays", told.count(13), 44);
        Check.due("perform: again", told.perform(), 9);
        Check.due("perform: the tides", told.count(0), 40);
        Check.due("perform: undo()", told.undo(), 2);
        Check.due("perform: the tides of one", told.count(0), 20);
        Check.due("perform: the text is no part of the state", told.count(13), 44);
        Check.due("perform: nothing was stopped", told.stopped(0), SaltWedge.NONE);
    }

    private static void performStops() {
        Check.refused("perform with a sill too high", x -> {
            x.sink(2, 9);
            x.tide(9, 9);
            x.keep();
            Check.write(x, "t5*3;r40;s2=9;s2=21;t4");
            x.perform();
        }, SaltWedge::perform, SaltWedge.NOT_POSSIBLE);
        Check.refused("perform with a fault behind a sill too high", x -> Check.write(x, "s2=21;t5*"),
            SaltWedge::perform, -109);
        SaltWedge x = new SaltWedge();
        Check.due("perform with a sill too high", Check.perform(x, "r7;t5*3;s2=21;t4;s3=21"), SaltWedge.NOT_POSSIBLE);
        Check.due("perform: nothing is done", x.count(0), 0);
        Check.due("perform: nothing flows", x.count(1), 10);
        Check.due("perform: nothing is recorded", x.count(12), 0);
        Check.due("perform: its number", x.stopped(0), 2);
        Check.due("perform: its error", x.stopped(1), SaltWedge.NOT_POSSIBLE);
        x.dig(2, 21);
        x.dig(3, 21);
        Check.due("perform in a deeper bed", x.perform(), 5);
        Check.due("perform: the sill", x.cell(2, 1), 21);
    }

    /** Promise 13. */
    private static void stopped() {
        SaltWedge x = new SaltWedge();
        Check.due("stopped(-1), nothing stopped", x.stopped(-1), SaltWedge.BAD_VALUE);
        Check.due("stopped(2), nothing stopped", x.stopped(2), SaltWedge.BAD_VALUE);
        Check.due("stopped(0), nothing stopped", x.stopped(0), SaltWedge.NONE);
        Check.due("stopped(1), nothing stopped", x.stopped(1), SaltWedge.NONE);
        Check.perform(x, "t5;t");
        Check.due("stopped(0), a fault stops nothing", x.stopped(0), SaltWedge.NONE);
        x.build(2, 21);
        Check.due("stopped(0), build() is not performed", x.stopped(0), SaltWedge.NONE);
        Check.perform(x, "s2=21");
        Check.due("stopped(0), the first thing", x.stopped(0), 0);
        Check.due("stopped(1), the first thing", x.stopped(1), SaltWedge.NOT_POSSIBLE);
        x.keep();
        Check.perform(x, "t5;t5;s2=21");
        Check.due("stopped(0), a later stop", x.stopped(0), 2);
        Check.perform(x, "t5;t5;s2=20");
        Check.due("stopped(0), perform() without a stop", x.stopped(0), 2);
        x.undo();
        x.restore();
        x.clearText();
        Check.due("stopped(0) is no part of the state", x.stopped(0), 2);
        Check.due("stopped(1) is no part of the state", x.stopped(1), SaltWedge.NOT_POSSIBLE);
        Check.due("stopped(2)", x.stopped(2), SaltWedge.BAD_VALUE);
        Check.due("stopped(MIN)", x.stopped(Integer.MIN_VALUE), SaltWedge.BAD_VALUE);
    }
}
