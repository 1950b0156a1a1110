import java.util.Random;

/** All promises: runs of 512 calls, drawn from fixed seeds, against the model of the document. */
public final class ModelTest {
    private static final int RUNS = 1500;
    private static final int CALLS = 512;
    private static final String SIGNS = "trs-*=;0123456789trs;;5 x";
    private static final int[] EXTREMES = {Integer.MIN_VALUE, Integer.MAX_VALUE, -1, 1 << 16};

    private final Random random;
    private final SaltWedge wedge = new SaltWedge();
    private final Model model = new Model();
    /** In some runs the cells in use lie close together, so that wells share and sills count. */
    private final int cells;
    private final String run;
    private String queue = "";

    private ModelTest(int seed) {
        random = new Random(seed);
        cells = new int[] {6, 15, 40}[random.nextInt(3)];
        run = "run " + seed + ", call ";
    }

    public static void main(String[] args) {
        for (int seed = 0; seed < RUNS; seed++) {
            ModelTest test = new ModelTest(seed);
            int wrong = Check.wrongSoFar();
            // What comes behind the first wrong answer of a run tells nothing new.
            for (int call = 0; call < CALLS && Check.wrongSoFar() == wrong; call++) {
                test.step(call);
            }
        }
        Check.end();
    }

    private int from(int least, int most) {
        if (random.nextInt(40) == 0) {
            int[] wrong = {least - 1, most + 1, EXTREMES[random.nextInt(EXTREMES.length)]};
            return wrong[random.nextInt(3)];
        }
        if (random.nextInt(8) == 0) {
            return random.nextBoolean() ? least : most;
        }
        return least + random.nextInt(most - least + 1);
    }

    private int cell() {
        return random.nextInt(10) == 0 ? from(0, 39) : from(0, cells - 1);
    }

    private int rise() {
        return random.nextInt(3) == 0 ? from(-30, 30) : from(-2, 22);
    }

    private void due(int call, String name, int first, int second, int got, int want) {
        Check.due(run + call + ": " + name + "(" + first + ", " + second + ")", got, want);
    }

    private void step(int call) {
        if (!queue.isEmpty()) {
            char next = queue.charAt(0);
            queue = queue.substring(1);
            due(call, "type", next, 0, wedge.type(next), model.type(next));
            return;
        }
        int kind = random.nextInt(100);
        if (kind < 12) {
            bed(call);
        } else if (kind < 24) {
            wells(call);
        } else if (kind < 36) {
            int rise = rise();
            int times = random.nextInt(3) == 0 ? from(1, 99) : from(1, 5);
            due(call, "tide", rise, times, wedge.tide(rise, times), model.tide(rise, times));
        } else if (kind < 44) {
            texts(call);
        } else if (kind < 52) {
            history(call);
        } else if (kind < 70) {
            told(call);
        } else {
            sought(call);
        }
    }

    private void bed(int call) {
        int cell = cell();
        switch (random.nextInt(5)) {
            case 0:
                int depth = from(1, random.nextBoolean() ? 60 : 25);
                due(call, "dig", cell, depth, wedge.dig(cell, depth), model.dig(cell, depth));
                break;
            case 1:
            case 2:
                int sill = from(0, random.nextBoolean() ? 60 : 12);
                due(call, "build", cell, sill, wedge.build(cell, sill), model.build(cell, sill));
                break;
            case 3:
                int flow = from(0, random.nextBoolean() ? 99 : 15);
                due(call, "flow", flow, 0, wedge.flow(flow), model.flow(flow));
                break;
            default:
                int which = from(0, 2);
                int value = which == 1 ? from(0, random.nextBoolean() ? 1 : 9) : from(which == 2 ? 1 : 0, 60);
                due(call, "set", which, value, wedge.set(which, value), model.set(which, value));
        }
    }

    private void wells(int call) {
        int rate = from(1, 30);
        int kind = random.nextInt(8);
        if (kind < 5) {
            int cell = cell();
            due(call, "sink", cell, rate, wedge.sink(cell, rate), model.sink(cell, rate));
        } else if (kind < 6) {
            int well = from(0, 5);
            due(call, "fillIn", well, 0, wedge.fillIn(well), model.fillIn(well));
        } else {
            int well = from(0, 5);
            due(call, "setRate", well, rate, wedge.setRate(well, rate), model.setRate(well, rate));
        }
    }

    private void texts(int call) {
        int kind = random.nextInt(8);
        if (kind < 3) {
            due(call, "perform", 0, 0, wedge.perform(), model.perform());
        } else if (kind < 5) {
            due(call, "clearText", 0, 0, wedge.clearText(), model.clearText());
            queue = random.nextInt(4) == 0 ? anyText() : goodText();
        } else if (kind < 6) {
            char any = random.nextInt(5) == 0 ? (char) random.nextInt(65536) : sign();
            due(call, "type", any, 0, wedge.type(any), model.type(any));
        } else {
            int what = from(0, 1);
            due(call, "stopped", what, 0, wedge.stopped(what), model.stopped(what));
        }
    }

    private char sign() {
        return SIGNS.charAt(random.nextInt(SIGNS.length()));
    }

    private String anyText() {
        StringBuilder text = new StringBuilder();
        int length = random.nextInt(8);
        for (int at = 0; at < length; at++) {
            text.append(sign());
        }
        return text.toString();
    }

    private String goodText() {
        StringBuilder text = new StringBuilder();
        int things = 1 + random.nextInt(random.nextInt(8) == 0 ? 12 : 4);
        for (int thing = 0; thing < things; thing++) {
            text.append(thing == 0 ? "" : ";");
            int kind = random.nextInt(4);
            if (kind < 2) {
                text.append(random.nextInt(4) == 0 ? "t-" : "t").append(random.nextInt(random.nextInt(9) == 0 ? 40 : 31));
                text.append(random.nextBoolean() ? "" : "*" + random.nextInt(random.nextInt(9) == 0 ? 110 : 12));
            } else if (kind < 3) {
                text.append("r").append(random.nextInt(random.nextInt(9) == 0 ? 110 : 20));
            } else {
                text.append("s").append(random.nextInt(random.nextInt(9) == 0 ? 45 : cells));
                text.append("=").append(random.nextInt(random.nextInt(4) == 0 ? 65 : 12));
            }
        }
        return text.toString();
    }

    private void history(int call) {
        switch (random.nextInt(5)) {
            case 0:
                due(call, "keep", 0, 0, wedge.keep(), model.keep());
                break;
            case 1:
                due(call, "restore", 0, 0, wedge.restore(), model.restore());
                break;
            default:
                due(call, "undo", 0, 0, wedge.undo(), model.undo());
        }
    }

    private void told(int call) {
        switch (random.nextInt(4)) {
            case 0:
                int cell = cell();
                int what = from(0, 4);
                due(call, "cell", cell, what, wedge.cell(cell, what), model.cell(cell, what));
                break;
            case 1:
                int well = from(0, 3);
                int of = from(0, 6);
                due(call, "well", well, of, wedge.well(well, of), model.well(well, of));
                break;
            case 2:
                due(call, "reach", 0, 0, wedge.reach(), model.reach());
                break;
            default:
                int which = from(0, 13);
                due(call, "count", which, 0, wedge.count(which), model.count(which));
        }
    }

    private void sought(int call) {
        int cell = cell();
        int rise = rise();
        switch (random.nextInt(6)) {
            case 0:
                due(call, "mark", cell, rise, wedge.mark(cell, rise), model.mark(cell, rise));
                break;
            case 1:
                due(call, "stopCell", rise, 0, wedge.stopCell(rise), model.stopCell(rise));
                break;
            case 2:
                due(call, "reason", cell, rise, wedge.reason(cell, rise), model.reason(cell, rise));
                break;
            case 3:
                int well = from(0, 5);
                due(call, "restsIn", well, rise, wedge.restsIn(well, rise), model.restsIn(well, rise));
                break;
            case 4:
                due(call, "leastFlow", cell, rise, wedge.leastFlow(cell, rise), model.leastFlow(cell, rise));
                break;
            default:
                int sill = from(1, random.nextBoolean() ? 60 : 15);
                due(call, "bestSill", sill, rise, wedge.bestSill(sill, rise), model.bestSill(sill, rise));
        }
    }
}
