import java.util.ArrayList;
import java.util.List;

/** What the tests share: counting wrong answers, typing texts, comparing whole objects. */
final class Check {
    interface Setup {
        void on(SaltWedge wedge);
    }

    interface Call {
        int on(SaltWedge wedge);
    }

    private static int wrong = 0;

    private Check() {
    }

    static void due(String what, long got, long want) {
        if (got != want) {
            wrong++;
            System.out.println(what + " answered " + got + ", due is " + want);
        }
    }

    static int wrongSoFar() {
        return wrong;
    }

    static void hold(String what, boolean holds) {
        if (!holds) {
            wrong++;
            System.out.println(what + " does not hold");
        }
    }

    static void end() {
        System.out.println(wrong == 0 ? "all answers are as due" : wrong + " answers are not as due");
        if (wrong != 0) {
            System.exit(1);
        }
    }

    static void write(SaltWedge wedge, String text) {
        wedge.clearText();
        for (int at = 0; at < text.length(); at++) {
            wedge.type(text.charAt(at));
        }
    }

    static int perform(SaltWedge wedge, String text) {
        write(wedge, text);
        return wedge.perform();
    }

    /** The call answers the error (or NONE), and nothing that can be asked differs from before. */
    static void refused(String what, Setup setup, Call call, int want) {
        SaltWedge called = new SaltWedge();
        SaltWedge untouched = new SaltWedge();
        setup.on(called);
        setup.on(untouched);
        due(what, call.on(called), want);
        same(what + ", then all that is told", told(called), told(untouched));
    }

    /** The call is an act: it records one state, and undo() brings everything back. */
    static void act(String what, Setup setup, Call call, int want) {
        SaltWedge called = new SaltWedge();
        SaltWedge untouched = new SaltWedge();
        setup.on(called);
        setup.on(untouched);
        int states = called.count(12);
        due(what, call.on(called), want);
        due(what + ", then count(12)", called.count(12), Math.min(states + 1, 4));
        due(what + ", then undo()", called.undo(), Math.min(states, 3));
        same(what + ", then undo() and all that is told", state(called), state(untouched));
    }

    static void same(String what, List<Integer> got, List<Integer> want) {
        if (!got.equals(want)) {
            wrong++;
            System.out.println(what + " is " + got + ", due is " + want);
        }
    }

    /** Everything, with what stands in the history and the snapshot: it is used up by this. */
    private static List<Integer> told(SaltWedge wedge) {
        List<Integer> all = state(wedge);
        all.add(wedge.count(12));
        all.add(wedge.count(13));
        all.add(wedge.stopped(0));
        all.add(wedge.stopped(1));
        all.add(wedge.undo());
        all.addAll(brief(wedge));
        all.add(wedge.undo());
        all.addAll(brief(wedge));
        all.add(wedge.restore());
        all.addAll(brief(wedge));
        return all;
    }

    /** The whole state, without the history and the text. */
    static List<Integer> state(SaltWedge wedge) {
        List<Integer> all = new ArrayList<>();
        for (int cell = 0; cell < 40; cell++) {
            for (int what = 0; what <= 4; what++) {
                all.add(wedge.cell(cell, what));
            }
        }
        all.addAll(brief(wedge));
        return all;
    }

    private static List<Integer> brief(SaltWedge wedge) {
        List<Integer> all = new ArrayList<>();
        for (int what = 0; what <= 11; what++) {
            all.add(wedge.count(what));
        }
        for (int well = 0; well < wedge.count(4); well++) {
            for (int what = 0; what <= 6; what++) {
                all.add(wedge.well(well, what));
            }
        }
        return all;
    }
}
