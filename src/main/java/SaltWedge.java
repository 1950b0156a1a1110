import java.util.Arrays;

/**
 * A saltwater wedge under a river mouth: a bed of cells from the sea upward, tides, sills, wells in
 * the bank, tides read from a text, undo and a snapshot. The promises stand in the project's
 * document; README.md tells how to use it.
 */
public final class SaltWedge {
    public static final int UNKNOWN = -1;
    public static final int BAD_VALUE = -2;
    public static final int FULL = -3;
    public static final int NOT_POSSIBLE = -4;
    public static final int NONE = -5;

    private static final int CELLS = 40;
    private static final int MOST_WELLS = 6;
    private static final int MOST_STATES = 4;
    private static final int MOST_CHARACTERS = 60;
    /** The shortest thing has two characters, and a ";" stands between two. */
    private static final int MOST_THINGS = (MOST_CHARACTERS + 1) / 3;

    private static final int FIRST_DEPTH = 20;
    private static final int FIRST_FLOW = 10;
    private static final int MOST_DEPTH = 60;
    private static final int MOST_SILL = 60;
    private static final int MOST_FLOW = 99;
    private static final int MOST_RATE = 30;
    private static final int MOST_RISE = 30;
    private static final int MOST_TIMES = 99;
    private static final int MOST_TIDES = 99999;
    private static final int SALT_OF_A_SALT_WELL = 50;
    private static final int SALT_LOST_IN_A_TIDE = 2;
    private static final int TIDES_LOOKED_AHEAD = 300;
    private static final int ANSWER_OF_FAULT_0 = -100;

    private static final int PUSH = 0;
    private static final int SLOPE = 1;
    private static final int STEP = 2;
    private static final int SETTINGS = 3;
    private static final int[] LEAST_SETTINGS = {0, 0, 1};
    private static final int[] MOST_SETTINGS = {60, 9, 60};

    private static final int TIDE_THING = 0;
    private static final int FLOW_THING = 1;
    private static final int SILL_THING = 2;

    private final State now;
    /** Made once: the state before an act, or the one in which tides are looked ahead. */
    private final State spare;
    private final State snapshot;
    private boolean hasSnapshot;
    private final History history;
    private final Script script;
    private boolean hasStop;
    private int stopNumber;
    private int stopError;

    public SaltWedge() {
        now = new State();
        spare = new State();
        snapshot = new State();
        history = new History();
        script = new Script();
    }

    // ---- the bed

    public int dig(int cell, int depth) {
        spare.copyFrom(now);
        return recorded(now.bed.deepen(cell, depth));
    }

    public int build(int cell, int sill) {
        spare.copyFrom(now);
        return recorded(now.bed.raiseSill(cell, sill));
    }

    public int flow(int flow) {
        spare.copyFrom(now);
        return recorded(now.changeFlow(flow));
    }

    public int set(int which, int value) {
        spare.copyFrom(now);
        return recorded(now.changeSetting(which, value));
    }

    // ---- wells, tides

    public int sink(int cell, int rate) {
        spare.copyFrom(now);
        return recorded(now.wells.add(cell, rate));
    }

    public int fillIn(int well) {
        spare.copyFrom(now);
        return recorded(now.wells.remove(well));
    }

    public int setRate(int well, int rate) {
        spare.copyFrom(now);
        return recorded(now.wells.changeRate(well, rate));
    }

    public int tide(int rise, int times) {
        spare.copyFrom(now);
        return recorded(now.letTidesCome(rise, times));
    }

    // ---- texts

    public int type(char character) {
        return script.append(character);
    }

    public int clearText() {
        return script.empty();
    }

    public int perform() {
        if (!script.read()) {
            return ANSWER_OF_FAULT_0 - script.at;
        }
        spare.copyFrom(now);
        for (int number = 0; number < script.things && number < MOST_THINGS; number++) {
            int answer = doThing(number);
            if (isError(answer)) {
                now.copyFrom(spare);
                noteStop(number, answer);
                return NOT_POSSIBLE;
            }
        }
        return recorded(script.things);
    }

    public int stopped(int what) {
        if (what < 0 || what > 1) {
            return BAD_VALUE;
        }
        if (!hasStop) {
            return NONE;
        }
        return what == 0 ? stopNumber : stopError;
    }

    // ---- history

    public int undo() {
        if (!history.takeLatest(now)) {
            return NONE;
        }
        return history.size;
    }

    public int keep() {
        snapshot.copyFrom(now);
        hasSnapshot = true;
        return now.tides;
    }

    public int restore() {
        if (!hasSnapshot) {
            return NONE;
        }
        spare.copyFrom(now);
        now.copyFrom(snapshot);
        return recorded(now.tides);
    }

    // ---- what is told

    public int cell(int cell, int what) {
        if (!isCell(cell)) {
            return UNKNOWN;
        }
        switch (what) {
            case 0:
                return now.bed.depths[cell];
            case 1:
                return now.bed.sills[cell];
            case 2:
                return now.bed.heights[cell];
            case 3:
                return now.wells.beside(cell);
            case 4:
                return now.bed.saltTides[cell];
            default:
                return BAD_VALUE;
        }
    }

    public int well(int well, int what) {
        return now.wells.tell(well, what);
    }

    public int reach() {
        return now.bed.greatestSaltCell();
    }

    public int mark(int cell, int rise) {
        if (!isCell(cell)) {
            return UNKNOWN;
        }
        if (!isRise(rise)) {
            return BAD_VALUE;
        }
        return now.bed.markOf(cell, now.pushOf(rise), now.slope());
    }

    public int stopCell(int rise) {
        if (!isRise(rise)) {
            return BAD_VALUE;
        }
        int stop = now.bed.stopOf(now.pushOf(rise), now.slope());
        return stop < CELLS ? stop : NONE;
    }

    public int reason(int cell, int rise) {
        if (!isCell(cell)) {
            return UNKNOWN;
        }
        if (!isRise(rise)) {
            return BAD_VALUE;
        }
        return now.bed.reasonOf(cell, now.pushOf(rise), now.slope());
    }

    public int restsIn(int well, int rise) {
        if (!now.wells.has(well)) {
            return UNKNOWN;
        }
        if (!isRise(rise)) {
            return BAD_VALUE;
        }
        if (now.wells.isResting(well)) {
            return NOT_POSSIBLE;
        }
        spare.copyFrom(now);
        for (int number = 1; number <= TIDES_LOOKED_AHEAD; number++) {
            spare.letOneTideCome(rise);
            if (spare.wells.isResting(well)) {
                return number;
            }
        }
        return NONE;
    }

    public int leastFlow(int cell, int rise) {
        if (!isCell(cell)) {
            return UNKNOWN;
        }
        if (!isRise(rise)) {
            return BAD_VALUE;
        }
        return now.leastFlowFor(cell, rise);
    }

    public int bestSill(int sill, int rise) {
        if (sill < 1 || sill > MOST_SILL || !isRise(rise)) {
            return BAD_VALUE;
        }
        return now.bed.bestCellFor(sill, now.pushOf(rise), now.slope());
    }

    public int count(int what) {
        switch (what) {
            case 0:
                return now.tides;
            case 1:
                return now.flow;
            case 2:
                return now.bed.saltCells();
            case 3:
                return now.bed.sumOfHeights();
            case 4:
                return now.wells.number;
            case 5:
                return now.wells.sumOf(now.wells.resting);
            case 6:
                return now.wells.sumOf(now.wells.salts);
            case 7:
                return now.wells.sumOf(now.wells.drawn);
            case 8:
                return now.farthest;
            case 9:
                return now.settings[PUSH];
            case 10:
                return now.settings[SLOPE];
            case 11:
                return now.settings[STEP];
            case 12:
                return history.size;
            case 13:
                return script.length;
            default:
                return BAD_VALUE;
        }
    }

    // ---- what the calls share

    /** Ends an act: the spare state, taken before it, goes to the history if the act was done. */
    private int recorded(int answer) {
        if (answer >= 0) {
            history.add(spare);
        }
        return answer;
    }

    private int doThing(int number) {
        if (number < 0 || number >= MOST_THINGS) {
            return BAD_VALUE;
        }
        int first = script.firsts[number];
        int second = script.seconds[number];
        switch (script.kinds[number]) {
            case TIDE_THING:
                return now.letTidesCome(first, second);
            case FLOW_THING:
                return now.changeFlow(first);
            default:
                return now.bed.raiseSill(first, second);
        }
    }

    private void noteStop(int number, int error) {
        hasStop = true;
        stopNumber = number;
        stopError = error;
    }

    private static boolean isError(int answer) {
        return answer < 0 && answer != NONE;
    }

    private static boolean isCell(int cell) {
        return cell >= 0 && cell < CELLS;
    }

    private static boolean isRise(int rise) {
        return rise >= -MOST_RISE && rise <= MOST_RISE;
    }

    /** The bed with the wedge on it. */
    private static final class Bed {
        final int[] depths = new int[CELLS];
        final int[] sills = new int[CELLS];
        final int[] heights = new int[CELLS];
        final int[] saltTides = new int[CELLS];

        Bed() {
            Arrays.fill(depths, FIRST_DEPTH);
        }

        void copyFrom(Bed other) {
            System.arraycopy(other.depths, 0, depths, 0, CELLS);
            System.arraycopy(other.sills, 0, sills, 0, CELLS);
            System.arraycopy(other.heights, 0, heights, 0, CELLS);
            System.arraycopy(other.saltTides, 0, saltTides, 0, CELLS);
        }

        int deepen(int cell, int depth) {
            if (!isCell(cell)) {
                return UNKNOWN;
            }
            if (depth < 1 || depth > MOST_DEPTH) {
                return BAD_VALUE;
            }
            if (heights[cell] > depth || sills[cell] > depth) {
                return NOT_POSSIBLE;
            }
            int previous = depths[cell];
            depths[cell] = depth;
            return previous == depth ? NONE : previous;
        }

        int raiseSill(int cell, int sill) {
            if (!isCell(cell)) {
                return UNKNOWN;
            }
            if (sill < 0 || sill > MOST_SILL) {
                return BAD_VALUE;
            }
            if (sill > depths[cell]) {
                return NOT_POSSIBLE;
            }
            int previous = sills[cell];
            sills[cell] = sill;
            return previous == sill ? NONE : previous;
        }

        /**
         * The mark of a cell to which the sea, or the cell below, offers a height. Behind a mark of
         * 0 at most 0 is offered, so that all cells farther up get 0 without a rule of their own.
         */
        private int markFrom(int cell, int offered) {
            if (!isCell(cell) || offered <= sills[cell]) {
                return 0;
            }
            return Math.min(offered, depths[cell]);
        }

        /** What is offered to a cell: the push, or the mark of the cell below less the slope. */
        private int offeredTo(int cell, int push, int slope) {
            int offered = push;
            for (int below = 0; below < cell && below < CELLS; below++) {
                offered = markFrom(below, offered) - slope;
            }
            return offered;
        }

        int markOf(int cell, int push, int slope) {
            return markFrom(cell, offeredTo(cell, push, slope));
        }

        /** The lowest cell with the mark 0; CELLS, farther than any cell, if none has it. */
        int stopOf(int push, int slope) {
            int offered = push;
            for (int cell = 0; cell < CELLS; cell++) {
                int mark = markFrom(cell, offered);
                if (mark == 0) {
                    return cell;
                }
                offered = mark - slope;
            }
            return CELLS;
        }

        int reasonOf(int cell, int push, int slope) {
            int stop = stopOf(push, slope);
            if (cell < stop) {
                return 0;
            }
            if (push <= 0) {
                return 1;
            }
            return offeredTo(stop, push, slope) > 0 ? 2 : 3;
        }

        /**
         * A mark goes over a sill undiminished, so one more sill stops a tide in its own cell or
         * changes nothing: the lowest cell below the stop whose offer is not above it is the best.
         */
        int bestCellFor(int sill, int push, int slope) {
            int offered = push;
            for (int cell = 0; cell < CELLS; cell++) {
                int mark = markFrom(cell, offered);
                if (mark == 0) {
                    return NONE;
                }
                if (offered <= sill && sills[cell] < sill && depths[cell] >= sill) {
                    return cell;
                }
                offered = mark - slope;
            }
            return NONE;
        }

        void follow(int push, int slope, int step) {
            int offered = push;
            for (int cell = 0; cell < CELLS; cell++) {
                int mark = markFrom(cell, offered);
                heights[cell] = moved(heights[cell], mark, step);
                if (heights[cell] > 0) {
                    saltTides[cell]++;
                }
                offered = mark - slope;
            }
        }

        private static int moved(int height, int mark, int step) {
            if (mark > height) {
                return Math.min(mark, height + step);
            }
            return Math.max(mark, height - step);
        }

        /** How far wedge and cone together are above what the sill leaves of the depth. */
        int excess(int cell, int cone) {
            if (!isCell(cell)) {
                return 0;
            }
            return heights[cell] + cone - (depths[cell] - sills[cell]);
        }

        int greatestSaltCell() {
            for (int cell = CELLS - 1; cell >= 0; cell--) {
                if (heights[cell] > 0) {
                    return cell;
                }
            }
            return NONE;
        }

        int saltCells() {
            int cells = 0;
            for (int cell = 0; cell < CELLS; cell++) {
                if (heights[cell] > 0) {
                    cells++;
                }
            }
            return cells;
        }

        int sumOfHeights() {
            int sum = 0;
            for (int cell = 0; cell < CELLS; cell++) {
                sum += heights[cell];
            }
            return sum;
        }
    }

    /** The wells, a row for each thing that is told of them, in the order in which they came. */
    private static final class Wells {
        final int[] cells = new int[MOST_WELLS];
        final int[] rates = new int[MOST_WELLS];
        final int[] salts = new int[MOST_WELLS];
        /** 1 for a well that rests, otherwise 0. */
        final int[] resting = new int[MOST_WELLS];
        final int[] drawn = new int[MOST_WELLS];
        final int[] turned = new int[MOST_WELLS];
        int number;

        void copyFrom(Wells other) {
            System.arraycopy(other.cells, 0, cells, 0, MOST_WELLS);
            System.arraycopy(other.rates, 0, rates, 0, MOST_WELLS);
            System.arraycopy(other.salts, 0, salts, 0, MOST_WELLS);
            System.arraycopy(other.resting, 0, resting, 0, MOST_WELLS);
            System.arraycopy(other.drawn, 0, drawn, 0, MOST_WELLS);
            System.arraycopy(other.turned, 0, turned, 0, MOST_WELLS);
            number = other.number;
        }

        boolean has(int well) {
            return well >= 0 && well < number && well < MOST_WELLS;
        }

        boolean isResting(int well) {
            return has(well) && resting[well] == 1;
        }

        int beside(int cell) {
            for (int well = 0; well < number && well < MOST_WELLS; well++) {
                if (cells[well] == cell) {
                    return well;
                }
            }
            return NONE;
        }

        int add(int cell, int rate) {
            if (!isCell(cell)) {
                return UNKNOWN;
            }
            if (!isRate(rate)) {
                return BAD_VALUE;
            }
            if (beside(cell) != NONE) {
                return NOT_POSSIBLE;
            }
            int well = number;
            if (well < 0 || well >= MOST_WELLS) {
                return FULL;
            }
            cells[well] = cell;
            rates[well] = rate;
            salts[well] = 0;
            resting[well] = 0;
            drawn[well] = 0;
            turned[well] = 0;
            number = well + 1;
            return well;
        }

        int remove(int well) {
            if (!has(well)) {
                return UNKNOWN;
            }
            int salt = salts[well];
            closeGap(cells, well);
            closeGap(rates, well);
            closeGap(salts, well);
            closeGap(resting, well);
            closeGap(drawn, well);
            closeGap(turned, well);
            number--;
            return salt;
        }

        private static void closeGap(int[] row, int gap) {
            for (int well = Math.max(gap, 0); well + 1 < row.length; well++) {
                row[well] = row[well + 1];
            }
        }

        int changeRate(int well, int rate) {
            if (!has(well)) {
                return UNKNOWN;
            }
            if (!isRate(rate)) {
                return BAD_VALUE;
            }
            int previous = rates[well];
            rates[well] = rate;
            return previous == rate ? NONE : previous;
        }

        private static boolean isRate(int rate) {
            return rate >= 1 && rate <= MOST_RATE;
        }

        int coneOf(int well) {
            if (!has(well) || resting[well] == 1) {
                return 0;
            }
            int cone = rates[well];
            for (int other = 0; other < number && other < MOST_WELLS; other++) {
                int apart = cells[other] - cells[well];
                if ((apart == 1 || apart == -1) && resting[other] == 0) {
                    cone -= rates[other];
                }
            }
            return Math.max(cone, 0);
        }

        /** No well turns before all have drawn: a cone is told by those that rested before. */
        void drawFrom(Bed bed) {
            for (int well = 0; well < number && well < MOST_WELLS; well++) {
                int gained = 0;
                if (resting[well] == 0) {
                    drawn[well] += rates[well];
                    gained = bed.excess(cells[well], coneOf(well));
                }
                salts[well] = saltBehind(salts[well], gained);
            }
            turnOrRecover();
        }

        private static int saltBehind(int salt, int gained) {
            return gained > 0 ? salt + gained : Math.max(salt - SALT_LOST_IN_A_TIDE, 0);
        }

        private void turnOrRecover() {
            for (int well = 0; well < number && well < MOST_WELLS; well++) {
                if (resting[well] == 0 && salts[well] >= SALT_OF_A_SALT_WELL) {
                    resting[well] = 1;
                    turned[well]++;
                } else if (salts[well] == 0) {
                    resting[well] = 0;
                }
            }
        }

        int tell(int well, int what) {
            if (!has(well)) {
                return UNKNOWN;
            }
            switch (what) {
                case 0:
                    return cells[well];
                case 1:
                    return rates[well];
                case 2:
                    return salts[well];
                case 3:
                    return resting[well];
                case 4:
                    return coneOf(well);
                case 5:
                    return drawn[well];
                case 6:
                    return turned[well];
                default:
                    return BAD_VALUE;
            }
        }

        int sumOf(int[] row) {
            int sum = 0;
            for (int well = 0; well < number && well < row.length; well++) {
                sum += row[well];
            }
            return sum;
        }
    }

    /** All that undo() and restore() bring back. */
    private static final class State {
        final Bed bed = new Bed();
        final Wells wells = new Wells();
        final int[] settings = {20, 1, 5};
        int flow = FIRST_FLOW;
        int tides;
        int farthest = NONE;

        void copyFrom(State other) {
            bed.copyFrom(other.bed);
            wells.copyFrom(other.wells);
            System.arraycopy(other.settings, 0, settings, 0, SETTINGS);
            flow = other.flow;
            tides = other.tides;
            farthest = other.farthest;
        }

        int changeFlow(int value) {
            if (value < 0 || value > MOST_FLOW) {
                return BAD_VALUE;
            }
            int previous = flow;
            flow = value;
            return previous == value ? NONE : previous;
        }

        int changeSetting(int which, int value) {
            if (which < 0 || which >= SETTINGS) {
                return UNKNOWN;
            }
            if (value < LEAST_SETTINGS[which] || value > MOST_SETTINGS[which]) {
                return BAD_VALUE;
            }
            int previous = settings[which];
            settings[which] = value;
            return previous == value ? NONE : previous;
        }

        int slope() {
            return settings[SLOPE];
        }

        int pushOf(int rise) {
            return pushWith(flow, rise);
        }

        private int pushWith(int river, int rise) {
            return settings[PUSH] + rise - river;
        }

        int letTidesCome(int rise, int times) {
            if (!isRise(rise) || times < 1 || times > MOST_TIMES) {
                return BAD_VALUE;
            }
            if (tides + times > MOST_TIDES) {
                return FULL;
            }
            for (int done = 0; done < times; done++) {
                letOneTideCome(rise);
            }
            return bed.saltCells();
        }

        void letOneTideCome(int rise) {
            bed.follow(pushOf(rise), slope(), settings[STEP]);
            wells.drawFrom(bed);
            tides++;
            farthest = Math.max(farthest, bed.greatestSaltCell());
        }

        int leastFlowFor(int cell, int rise) {
            for (int river = 0; river <= MOST_FLOW; river++) {
                if (bed.markOf(cell, pushWith(river, rise), slope()) == 0) {
                    return river;
                }
            }
            return NONE;
        }
    }

    /** The latest states, the oldest one first. */
    private static final class History {
        private final State[] states = new State[MOST_STATES];
        int size;

        History() {
            for (int place = 0; place < MOST_STATES; place++) {
                states[place] = new State();
            }
        }

        void add(State state) {
            if (size >= MOST_STATES) {
                dropOldest();
            }
            if (size < 0 || size >= MOST_STATES) {
                return;
            }
            State free = states[size];
            if (free != null) {
                free.copyFrom(state);
                size++;
            }
        }

        /** The dropped state goes behind the others, where its rows are used again. */
        private void dropOldest() {
            State oldest = states[0];
            for (int place = 1; place < MOST_STATES; place++) {
                states[place - 1] = states[place];
            }
            states[MOST_STATES - 1] = oldest;
            size--;
        }

        boolean takeLatest(State target) {
            int place = size - 1;
            if (place < 0 || place >= MOST_STATES) {
                return false;
            }
            State latest = states[place];
            if (latest == null) {
                return false;
            }
            target.copyFrom(latest);
            size = place;
            return true;
        }
    }

    /** The text, and the things that it tells. */
    private static final class Script {
        private static final int NO_CHARACTER = -1;
        private static final int NO_NUMBER = -1;

        private final char[] characters = new char[MOST_CHARACTERS];
        int length;
        final int[] kinds = new int[MOST_THINGS];
        final int[] firsts = new int[MOST_THINGS];
        final int[] seconds = new int[MOST_THINGS];
        int things;
        /** How far the text is read: behind a read() that failed, the fault. */
        int at;

        int append(char character) {
            if (length < 0 || length >= MOST_CHARACTERS) {
                return FULL;
            }
            characters[length] = character;
            length++;
            return length;
        }

        int empty() {
            int previous = length;
            length = 0;
            return previous;
        }

        /** Reads the whole text, unless it has a fault. */
        boolean read() {
            at = 0;
            things = 0;
            boolean fine = readThing();
            for (int turn = 0; turn < MOST_CHARACTERS && fine && at < length; turn++) {
                fine = pass(';') && readThing();
            }
            return fine && at >= length;
        }

        private boolean readThing() {
            if (pass('t')) {
                return readTide();
            }
            if (pass('r')) {
                return readFlow();
            }
            return pass('s') && readSill();
        }

        private boolean readTide() {
            boolean falls = pass('-');
            int rise = readNumber(0, MOST_RISE);
            if (rise == NO_NUMBER) {
                return false;
            }
            int times = 1;
            if (pass('*')) {
                times = readNumber(1, MOST_TIMES);
                if (times == NO_NUMBER) {
                    return false;
                }
            }
            return note(TIDE_THING, falls ? -rise : rise, times);
        }

        private boolean readFlow() {
            int flow = readNumber(0, MOST_FLOW);
            return flow != NO_NUMBER && note(FLOW_THING, flow, 0);
        }

        private boolean readSill() {
            int cell = readNumber(0, CELLS - 1);
            if (cell == NO_NUMBER || !pass('=')) {
                return false;
            }
            int sill = readNumber(0, MOST_SILL);
            return sill != NO_NUMBER && note(SILL_THING, cell, sill);
        }

        /**
         * No number has more than two digits. A digit that is not allowed is left where it stands:
         * nothing that may come behind a number is a digit, so it is the fault.
         */
        private int readNumber(int least, int most) {
            int number = digit();
            if (number < least) {
                return NO_NUMBER;
            }
            at++;
            int second = digit();
            if (number > 0 && second != NO_NUMBER && 10 * number + second <= most) {
                at++;
                return 10 * number + second;
            }
            return number;
        }

        private int digit() {
            int character = next();
            return character >= '0' && character <= '9' ? character - '0' : NO_NUMBER;
        }

        private boolean pass(char character) {
            if (next() != character) {
                return false;
            }
            at++;
            return true;
        }

        private int next() {
            if (at < 0 || at >= length || at >= MOST_CHARACTERS) {
                return NO_CHARACTER;
            }
            return characters[at];
        }

        private boolean note(int kind, int first, int second) {
            if (things < 0 || things >= MOST_THINGS) {
                return false;
            }
            kinds[things] = kind;
            firsts[things] = first;
            seconds[things] = second;
            things++;
            return true;
        }
    }
}
