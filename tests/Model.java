import java.util.ArrayDeque;
import java.util.ArrayList;
import java.util.Arrays;
import java.util.Deque;
import java.util.List;
import java.util.regex.Pattern;

/**
 * The document once more, as slowly and as near to its words as can be: states are copied whole,
 * what is sought is tried out, and a fault is found by trying what might follow. It shares no code
 * with SaltWedge, so that a slip in one of them shows.
 */
final class Model {
    static final int UNKNOWN = -1;
    static final int BAD_VALUE = -2;
    static final int FULL = -3;
    static final int NOT_POSSIBLE = -4;
    static final int NONE = -5;

    private static final class Well {
        int cell;
        int rate;
        int salt;
        boolean rests;
        int drew;
        int turned;

        Well copy() {
            Well well = new Well();
            well.cell = cell;
            well.rate = rate;
            well.salt = salt;
            well.rests = rests;
            well.drew = drew;
            well.turned = turned;
            return well;
        }
    }

    private static final class State {
        int[] depth = new int[40];
        int[] sill = new int[40];
        int[] height = new int[40];
        int[] salty = new int[40];
        int[] setting = {20, 1, 5};
        int flow = 10;
        int tides = 0;
        int farthest = NONE;
        List<Well> wells = new ArrayList<>();

        State() {
            Arrays.fill(depth, 20);
        }

        State copy() {
            State state = new State();
            state.depth = depth.clone();
            state.sill = sill.clone();
            state.height = height.clone();
            state.salty = salty.clone();
            state.setting = setting.clone();
            state.flow = flow;
            state.tides = tides;
            state.farthest = farthest;
            for (Well well : wells) {
                state.wells.add(well.copy());
            }
            return state;
        }

        /** Row 0: what each cell would have before its sill and depth; row 1: its mark. */
        int[][] marks(int rise) {
            int[][] rows = new int[2][40];
            boolean stopped = false;
            for (int i = 0; i < 40; i++) {
                rows[0][i] = i == 0 ? setting[0] + rise - flow : rows[1][i - 1] - setting[1];
                if (!(rows[0][i] > sill[i])) {
                    stopped = true;
                }
                rows[1][i] = stopped ? 0 : Math.max(0, Math.min(depth[i], rows[0][i]));
            }
            return rows;
        }

        int stop(int rise) {
            int[] marks = marks(rise)[1];
            for (int i = 0; i < 40; i++) {
                if (marks[i] == 0) {
                    return i;
                }
            }
            return 1000;
        }

        int cone(Well well) {
            if (well.rests) {
                return 0;
            }
            int cone = well.rate;
            for (Well other : wells) {
                if (Math.abs(other.cell - well.cell) == 1 && !other.rests) {
                    cone -= other.rate;
                }
            }
            return Math.max(0, cone);
        }

        void tide(int rise) {
            int[] marks = marks(rise)[1];
            for (int i = 0; i < 40; i++) {
                for (int step = 0; step < setting[2]; step++) {
                    height[i] += Integer.signum(marks[i] - height[i]);
                }
            }
            List<Integer> cones = new ArrayList<>();
            for (Well well : wells) {
                cones.add(cone(well));
            }
            for (int w = 0; w < wells.size(); w++) {
                Well well = wells.get(w);
                if (well.rests) {
                    well.salt = Math.max(0, well.salt - 2);
                    well.rests = well.salt > 0;
                    continue;
                }
                well.drew += well.rate;
                int left = depth[well.cell] - sill[well.cell];
                int together = height[well.cell] + cones.get(w);
                if (together > left) {
                    well.salt += together - left;
                } else {
                    well.salt = Math.max(0, well.salt - 2);
                }
                if (well.salt >= 50) {
                    well.rests = true;
                    well.turned++;
                }
            }
            tides++;
            for (int i = 0; i < 40; i++) {
                if (height[i] > 0) {
                    salty[i]++;
                    farthest = Math.max(farthest, i);
                }
            }
        }

        int saltCells() {
            int cells = 0;
            for (int height : height) {
                cells += height > 0 ? 1 : 0;
            }
            return cells;
        }
    }

    private static final String RISE = "t-?(30|[12][0-9]|[0-9])(\\*[1-9][0-9]?)?";
    private static final String RIVER = "r(0|[1-9][0-9]?)";
    private static final String SILL = "s(0|[1-9]|[123][0-9])=(0|[1-9]|[1-5][0-9]|60)";
    private static final String THING = "(" + RISE + "|" + RIVER + "|" + SILL + ")";
    private static final Pattern TEXT = Pattern.compile(THING + "(;" + THING + ")*");
    private static final String[] ENDINGS = {"", "0", "1", "=0", "0=0", "t0"};

    private State now = new State();
    private State snapshot = null;
    private final Deque<State> history = new ArrayDeque<>();
    private String text = "";
    private int[] stop = null;

    private interface Act {
        int on(State state);
    }

    private int act(Act act) {
        State next = now.copy();
        int answer = act.on(next);
        if (answer >= 0) {
            history.addLast(now);
            if (history.size() > 4) {
                history.removeFirst();
            }
            now = next;
        }
        return answer;
    }

    private static boolean in(int value, int least, int most) {
        return least <= value && value <= most;
    }

    int dig(int cell, int depth) {
        return act(s -> {
            if (!in(cell, 0, 39)) {
                return UNKNOWN;
            }
            if (!in(depth, 1, 60)) {
                return BAD_VALUE;
            }
            if (s.height[cell] > depth || s.sill[cell] > depth) {
                return NOT_POSSIBLE;
            }
            int previous = s.depth[cell];
            s.depth[cell] = depth;
            return previous == depth ? NONE : previous;
        });
    }

    private static int build(State s, int cell, int sill) {
        if (!in(cell, 0, 39)) {
            return UNKNOWN;
        }
        if (!in(sill, 0, 60)) {
            return BAD_VALUE;
        }
        if (sill > s.depth[cell]) {
            return NOT_POSSIBLE;
        }
        int previous = s.sill[cell];
        s.sill[cell] = sill;
        return previous == sill ? NONE : previous;
    }

    int build(int cell, int sill) {
        return act(s -> build(s, cell, sill));
    }

    private static int flow(State s, int flow) {
        if (!in(flow, 0, 99)) {
            return BAD_VALUE;
        }
        int previous = s.flow;
        s.flow = flow;
        return previous == flow ? NONE : previous;
    }

    int flow(int flow) {
        return act(s -> flow(s, flow));
    }

    int set(int which, int value) {
        return act(s -> {
            if (!in(which, 0, 2)) {
                return UNKNOWN;
            }
            if (!in(value, which == 2 ? 1 : 0, which == 1 ? 9 : 60)) {
                return BAD_VALUE;
            }
            int previous = s.setting[which];
            s.setting[which] = value;
            return previous == value ? NONE : previous;
        });
    }

    int sink(int cell, int rate) {
        return act(s -> {
            if (!in(cell, 0, 39)) {
                return UNKNOWN;
            }
            if (!in(rate, 1, 30)) {
                return BAD_VALUE;
            }
            for (Well well : s.wells) {
                if (well.cell == cell) {
                    return NOT_POSSIBLE;
                }
            }
            if (s.wells.size() == 6) {
                return FULL;
            }
            Well well = new Well();
            well.cell = cell;
            well.rate = rate;
            s.wells.add(well);
            return s.wells.size() - 1;
        });
    }

    int fillIn(int well) {
        return act(s -> in(well, 0, s.wells.size() - 1) ? s.wells.remove(well).salt : UNKNOWN);
    }

    int setRate(int well, int rate) {
        return act(s -> {
            if (!in(well, 0, s.wells.size() - 1)) {
                return UNKNOWN;
            }
            if (!in(rate, 1, 30)) {
                return BAD_VALUE;
            }
            int previous = s.wells.get(well).rate;
            s.wells.get(well).rate = rate;
            return previous == rate ? NONE : previous;
        });
    }

    private static int tide(State s, int rise, int times) {
        if (!in(rise, -30, 30) || !in(times, 1, 99)) {
            return BAD_VALUE;
        }
        if (s.tides + times > 99999) {
            return FULL;
        }
        for (int i = 0; i < times; i++) {
            s.tide(rise);
        }
        return s.saltCells();
    }

    int tide(int rise, int times) {
        return act(s -> tide(s, rise, times));
    }

    int type(char character) {
        if (text.length() == 60) {
            return FULL;
        }
        text += character;
        return text.length();
    }

    int clearText() {
        int length = text.length();
        text = "";
        return length;
    }

    private int fault() {
        for (int at = 0; at < text.length(); at++) {
            boolean allowed = false;
            for (String ending : ENDINGS) {
                allowed |= TEXT.matcher(text.substring(0, at + 1) + ending).matches();
            }
            if (!allowed) {
                return at;
            }
        }
        return TEXT.matcher(text).matches() ? -1 : text.length();
    }

    int perform() {
        int fault = fault();
        if (fault >= 0) {
            return -100 - fault;
        }
        String[] things = text.split(";");
        return act(s -> {
            for (int i = 0; i < things.length; i++) {
                int answer = thing(s, things[i]);
                if (answer < 0 && answer != NONE) {
                    stop = new int[] {i, answer};
                    return NOT_POSSIBLE;
                }
            }
            return things.length;
        });
    }

    private static int thing(State s, String thing) {
        String[] parts = thing.substring(1).split("[*=]");
        int first = Integer.parseInt(parts[0]);
        int second = parts.length > 1 ? Integer.parseInt(parts[1]) : 1;
        switch (thing.charAt(0)) {
            case 't':
                return tide(s, first, second);
            case 'r':
                return flow(s, first);
            default:
                return build(s, first, second);
        }
    }

    int stopped(int what) {
        if (!in(what, 0, 1)) {
            return BAD_VALUE;
        }
        return stop == null ? NONE : stop[what];
    }

    int undo() {
        if (history.isEmpty()) {
            return NONE;
        }
        now = history.removeLast();
        return history.size();
    }

    int keep() {
        snapshot = now.copy();
        return now.tides;
    }

    int restore() {
        if (snapshot == null) {
            return NONE;
        }
        history.addLast(now);
        if (history.size() > 4) {
            history.removeFirst();
        }
        now = snapshot.copy();
        return now.tides;
    }

    int cell(int cell, int what) {
        if (!in(cell, 0, 39)) {
            return UNKNOWN;
        }
        if (!in(what, 0, 4)) {
            return BAD_VALUE;
        }
        int beside = NONE;
        for (int w = 0; w < now.wells.size(); w++) {
            beside = now.wells.get(w).cell == cell ? w : beside;
        }
        return new int[] {now.depth[cell], now.sill[cell], now.height[cell], beside, now.salty[cell]}[what];
    }

    int well(int well, int what) {
        if (!in(well, 0, now.wells.size() - 1)) {
            return UNKNOWN;
        }
        if (!in(what, 0, 6)) {
            return BAD_VALUE;
        }
        Well w = now.wells.get(well);
        return new int[] {w.cell, w.rate, w.salt, w.rests ? 1 : 0, now.cone(w), w.drew, w.turned}[what];
    }

    int reach() {
        int reach = NONE;
        for (int i = 0; i < 40; i++) {
            reach = now.height[i] > 0 ? i : reach;
        }
        return reach;
    }

    int mark(int cell, int rise) {
        return !in(cell, 0, 39) ? UNKNOWN : !in(rise, -30, 30) ? BAD_VALUE : now.marks(rise)[1][cell];
    }

    int stopCell(int rise) {
        if (!in(rise, -30, 30)) {
            return BAD_VALUE;
        }
        return now.stop(rise) == 1000 ? NONE : now.stop(rise);
    }

    int reason(int cell, int rise) {
        if (!in(cell, 0, 39)) {
            return UNKNOWN;
        }
        if (!in(rise, -30, 30)) {
            return BAD_VALUE;
        }
        int[][] rows = now.marks(rise);
        if (rows[1][cell] > 0) {
            return 0;
        }
        if (rows[0][0] <= 0) {
            return 1;
        }
        return rows[0][now.stop(rise)] > 0 ? 2 : 3;
    }

    int restsIn(int well, int rise) {
        if (!in(well, 0, now.wells.size() - 1)) {
            return UNKNOWN;
        }
        if (!in(rise, -30, 30)) {
            return BAD_VALUE;
        }
        if (now.wells.get(well).rests) {
            return NOT_POSSIBLE;
        }
        State ahead = now.copy();
        for (int i = 1; i <= 300; i++) {
            ahead.tide(rise);
            if (ahead.wells.get(well).rests) {
                return i;
            }
        }
        return NONE;
    }

    int leastFlow(int cell, int rise) {
        if (!in(cell, 0, 39)) {
            return UNKNOWN;
        }
        if (!in(rise, -30, 30)) {
            return BAD_VALUE;
        }
        for (int flow = 0; flow <= 99; flow++) {
            State other = now.copy();
            other.flow = flow;
            int above = 0;
            for (int i = cell; i < 40; i++) {
                above += other.marks(rise)[1][i];
            }
            if (above == 0) {
                return flow;
            }
        }
        return NONE;
    }

    int bestSill(int sill, int rise) {
        if (!in(sill, 1, 60) || !in(rise, -30, 30)) {
            return BAD_VALUE;
        }
        int best = NONE;
        int least = now.stop(rise);
        for (int i = 0; i < 40; i++) {
            if (now.sill[i] < sill && now.depth[i] >= sill) {
                State other = now.copy();
                other.sill[i] = sill;
                if (other.stop(rise) < least) {
                    least = other.stop(rise);
                    best = i;
                }
            }
        }
        return best;
    }

    int count(int what) {
        if (!in(what, 0, 13)) {
            return BAD_VALUE;
        }
        int heights = 0;
        for (int height : now.height) {
            heights += height;
        }
        int resting = 0;
        int salt = 0;
        int drew = 0;
        for (Well well : now.wells) {
            resting += well.rests ? 1 : 0;
            salt += well.salt;
            drew += well.drew;
        }
        return new int[] {now.tides, now.flow, now.saltCells(), heights, now.wells.size(), resting, salt, drew,
            now.farthest, now.setting[0], now.setting[1], now.setting[2], history.size(), text.length()}[what];
    }
}
