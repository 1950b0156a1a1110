import java.util.ArrayList;
import java.util.HashMap;
import java.util.List;
import java.util.Map;
import java.util.Objects;
import java.util.Set;
import java.util.TreeSet;

/** What the tests share: counting wrong answers, typing texts, comparing whole objects. */
final class Check {
    interface Setup {
        void on(SaltWedge wedge);
    }

    interface Call {
        int on(SaltWedge wedge);
    }

    /** A call with one argument left open. */
    interface CallOf {
        int on(SaltWedge wedge, int value);
    }

    /** Something that later calls show of an object; the object is used up by it. */
    private interface Look {
        List<Integer> at(SaltWedge wedge);
    }

    private static final List<Look> LOOKS = List.of(Check::state, Check::history, x -> undone(x, 1),
        x -> undone(x, 2), x -> undone(x, 3), x -> undone(x, 4), x -> undone(x, 5), Check::restored,
        Check::performed, Check::ofTheText, Check::behindTides);

    private static final Map<String, Integer> OF_SOME = told(made(Check::some));

    private static int wrong = 0;
    private static int checks = 0;
    private static String place = "";

    private Check() {
    }

    /** What is checked from here on is told with these words. */
    static void under(String words) {
        place = words.isEmpty() ? "" : "[" + words + "] ";
    }

    static void due(String what, long got, long want) {
        checks++;
        if (got != want) {
            complain(what + " answered " + got + ", due is " + want);
        }
    }

    static void hold(String what, boolean holds) {
        checks++;
        if (!holds) {
            complain(what + " does not hold");
        }
    }

    static void same(String what, List<Integer> got, List<Integer> want) {
        checks++;
        if (got.size() != want.size()) {
            complain(what + " has " + got.size() + " numbers, due are " + want.size());
            return;
        }
        for (int at = 0; at < got.size(); at++) {
            if (!got.get(at).equals(want.get(at))) {
                complain(what + ": the number " + at + " is " + got.get(at) + ", due is " + want.get(at));
                return;
            }
        }
    }

    static void complain(String what) {
        wrong++;
        System.out.println(place + what);
    }

    static int wrongSoFar() {
        return wrong;
    }

    static int checksSoFar() {
        return checks;
    }

    static void end() {
        Doc.end();
        System.out.println(wrong == 0 ? "all answers are as due" : wrong + " answers are not as due");
        if (wrong != 0) {
            System.exit(1);
        }
    }

    static SaltWedge made(Setup setup) {
        SaltWedge wedge = new SaltWedge();
        setup.on(wedge);
        return wedge;
    }

    static void fresh(SaltWedge wedge) {
    }

    /**
     * A bit of everything: four wells, of which one rests and one has salt, two sills, a wedge of 20
     * cells, a full history, a snapshot of five tides, and a text with its stop.
     */
    static void some(SaltWedge wedge) {
        wedge.sink(1, 30);
        wedge.sink(5, 4);
        wedge.sink(6, 9);
        wedge.sink(12, 15);
        wedge.build(9, 8);
        wedge.build(25, 8);
        wedge.tide(30, 5);
        wedge.keep();
        perform(wedge, "t0;s3=60");
        wedge.dig(30, 11);
    }

    /** Six wells beside the cells 0, 3, .. 15, with rates from 1 to 6. */
    static void sixWells(SaltWedge wedge) {
        for (int number = 0; number < 6; number++) {
            wedge.sink(3 * number, number + 1);
        }
    }

    /** 99990 tides, 9 less than there may be at most, and nothing else but the text that told them. */
    static void almostAllTides(SaltWedge wedge) {
        write(wedge, "t0*99;t0*99;t0*99;t0*99;t0*99;t0*99;t0*99;t0*99;t0*99;t0*99");
        for (int times = 0; times < 101; times++) {
            wedge.perform();
        }
    }

    static void write(SaltWedge wedge, String text) {
        wedge.clearText();
        for (int at = 0; at < text.length(); at++) {
            wedge.type(text.charAt(at));
        }
    }

    static int perform(SaltWedge wedge, String text) {
        write(wedge, text);
        return wedge.perform();
    }

    /** The call answers the error (or NONE, or a number), and nothing that a later call shows differs. */
    static void refused(String what, Setup setup, Call call, int want) {
        for (Look look : LOOKS) {
            SaltWedge called = made(setup);
            due(what, call.on(called), want);
            same(what + ", then what later calls show", look.at(called), look.at(made(setup)));
        }
    }

    /** Of `some`, the call answers this, and changes nothing. */
    static void tells(String what, Call call, int want) {
        refused(what, Check::some, call, want);
    }

    /** Outside the range, just beyond it and as far as can be, the call answers the error. */
    static void refusedBeyond(String what, CallOf call, int least, int most, int error) {
        for (int value : new int[] {least - 1, most + 1, Integer.MIN_VALUE, Integer.MAX_VALUE}) {
            tells(what + " with " + value, x -> call.on(x, value), error);
        }
    }

    /** The call is an act: it records one state, and undo() brings everything back. */
    static void act(String what, Setup setup, Call call, int want) {
        SaltWedge called = made(setup);
        SaltWedge untouched = made(setup);
        int states = called.count(12);
        due(what, call.on(called), want);
        due(what + ", then count(12)", called.count(12), Math.min(states + 1, 4));
        due(what + ", then undo()", called.undo(), Math.min(states, 3));
        same(what + ", then undo() and the state", state(called), state(untouched));
        same(what + ", then undo() and what is no state", noState(called), noState(untouched));
        if (states > 0) {
            called.undo();
            untouched.undo();
            same(what + ", then undo() twice", brief(called), brief(untouched));
        }
    }

    /** Of `some`, the call changes what these calls tell, as "cell(3, 0)", and nothing else. */
    static void changes(String what, Call call, int want, String... calls) {
        SaltWedge called = made(Check::some);
        due(what, call.on(called), want);
        Set<String> wanted = new TreeSet<>(List.of(calls));
        Set<String> changed = changed(called);
        hold(what + " changes " + wanted + ", and " + changed, changed.equals(wanted));
    }

    /** The calls that tell something else than of `some`. */
    static Set<String> changed(SaltWedge wedge) {
        Map<String, Integer> told = told(wedge);
        Set<String> changed = new TreeSet<>(told.keySet());
        changed.addAll(OF_SOME.keySet());
        changed.removeIf(call -> Objects.equals(told.get(call), OF_SOME.get(call)));
        return changed;
    }

    private static Map<String, Integer> told(SaltWedge wedge) {
        Map<String, Integer> told = new HashMap<>();
        for (int cell = 0; cell < 40; cell++) {
            for (int what = 0; what <= 4; what++) {
                told.put("cell(" + cell + ", " + what + ")", wedge.cell(cell, what));
            }
        }
        for (int what = 0; what <= 13; what++) {
            told.put("count(" + what + ")", wedge.count(what));
        }
        for (int well = 0; well < wedge.count(4); well++) {
            for (int what = 0; what <= 6; what++) {
                told.put("well(" + well + ", " + what + ")", wedge.well(well, what));
            }
        }
        told.put("stopped(0)", wedge.stopped(0));
        told.put("stopped(1)", wedge.stopped(1));
        return told;
    }

    /** The whole state, without the history and the text. */
    static List<Integer> state(SaltWedge wedge) {
        List<Integer> all = new ArrayList<>();
        for (int cell = 0; cell < 40; cell++) {
            for (int what = 0; what <= 4; what++) {
                all.add(wedge.cell(cell, what));
            }
        }
        all.addAll(brief(wedge));
        return all;
    }

    private static List<Integer> brief(SaltWedge wedge) {
        List<Integer> all = new ArrayList<>();
        for (int what = 0; what <= 11; what++) {
            all.add(wedge.count(what));
        }
        for (int well = 0; well < wedge.count(4); well++) {
            for (int what = 0; what <= 6; what++) {
                all.add(wedge.well(well, what));
            }
        }
        return all;
    }

    private static List<Integer> noState(SaltWedge wedge) {
        return List.of(wedge.count(13), wedge.stopped(0), wedge.stopped(1));
    }

    private static List<Integer> history(SaltWedge wedge) {
        List<Integer> all = new ArrayList<>(noState(wedge));
        all.add(wedge.count(12));
        return all;
    }

    private static List<Integer> undone(SaltWedge wedge, int times) {
        List<Integer> all = new ArrayList<>();
        for (int time = 0; time < times; time++) {
            all.add(wedge.undo());
        }
        all.addAll(state(wedge));
        return all;
    }

    private static List<Integer> restored(SaltWedge wedge) {
        List<Integer> all = new ArrayList<>();
        all.add(wedge.restore());
        all.addAll(state(wedge));
        return all;
    }

    private static List<Integer> performed(SaltWedge wedge) {
        List<Integer> all = new ArrayList<>();
        all.add(wedge.perform());
        all.addAll(noState(wedge));
        all.addAll(state(wedge));
        return all;
    }

    private static List<Integer> ofTheText(SaltWedge wedge) {
        return List.of(wedge.type('x'), wedge.perform(), wedge.clearText(), wedge.perform());
    }

    private static List<Integer> behindTides(SaltWedge wedge) {
        List<Integer> all = new ArrayList<>();
        all.add(wedge.tide(25, 3));
        all.addAll(state(wedge));
        return all;
    }
}
