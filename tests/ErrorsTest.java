import java.io.IOException;
import java.nio.file.Files;
import java.nio.file.Path;
import java.util.ArrayList;
import java.util.List;
import java.util.regex.Matcher;
import java.util.regex.Pattern;

/** The errors of the document's terms: their order, NONE, and that nothing is changed. */
public final class ErrorsTest {
    public static void main(String[] args) throws IOException {
        order();
        none();
        nothingIsChanged();
        constants();
        whatTheInterfaceSays();
        Check.end();
    }

    private static void order() {
        Doc.section("ERRORS");
        Doc.leaves("Errors are reported by the constants below.");
        Doc.says("Where several errors can apply, the order of the @return line is the order of the checks.");
        Check.tells("dig(40, 61)", x -> x.dig(40, 61), SaltWedge.UNKNOWN);
        Check.tells("build(40, 61)", x -> x.build(40, 61), SaltWedge.UNKNOWN);
        Check.tells("set(3, 61)", x -> x.set(3, 61), SaltWedge.UNKNOWN);
        Check.tells("sink(40, 31)", x -> x.sink(40, 31), SaltWedge.UNKNOWN);
        Check.tells("setRate(4, 31)", x -> x.setRate(4, 31), SaltWedge.UNKNOWN);
        Check.tells("cell(40, 5)", x -> x.cell(40, 5), SaltWedge.UNKNOWN);
        Check.tells("well(4, 7)", x -> x.well(4, 7), SaltWedge.UNKNOWN);
        Check.tells("mark(40, 31)", x -> x.mark(40, 31), SaltWedge.UNKNOWN);
        Check.tells("reason(40, 31)", x -> x.reason(40, 31), SaltWedge.UNKNOWN);
        Check.tells("restsIn(4, 31)", x -> x.restsIn(4, 31), SaltWedge.UNKNOWN);
        Check.tells("leastFlow(40, 31)", x -> x.leastFlow(40, 31), SaltWedge.UNKNOWN);
        Check.tells("dig(0, 0), below the wedge", x -> x.dig(0, 0), SaltWedge.BAD_VALUE);
        Check.tells("build(0, 61), above the depth", x -> x.build(0, 61), SaltWedge.BAD_VALUE);
        Check.tells("sink(1, 31), beside one", x -> x.sink(1, 31), SaltWedge.BAD_VALUE);
        Check.tells("restsIn(0, 31) of one that rests", x -> x.restsIn(0, 31), SaltWedge.BAD_VALUE);
        Check.refused("perform() with a stop and a fault", x -> Check.write(x, "s3=60;"), SaltWedge::perform, -106);
        Check.refused("sink(40, 5) of six", Check::sixWells, x -> x.sink(40, 5), SaltWedge.UNKNOWN);
        Check.refused("sink(1, 31) of six", Check::sixWells, x -> x.sink(1, 31), SaltWedge.BAD_VALUE);
        Check.refused("sink(3, 31) beside one of six", Check::sixWells, x -> x.sink(3, 31), SaltWedge.BAD_VALUE);
        Check.refused("sink(3, 5) beside one of six", Check::sixWells, x -> x.sink(3, 5), SaltWedge.NOT_POSSIBLE);
        Check.refused("tide(31, 99) of too many", Check::almostAllTides, x -> x.tide(31, 99), SaltWedge.BAD_VALUE);
        Check.refused("tide(0, 100) of too many", Check::almostAllTides, x -> x.tide(0, 100), SaltWedge.BAD_VALUE);
    }

    private static void none() {
        Doc.says("NONE is no error; it is returned only if no error applies.");
        Check.due("perform() of what answers NONE is no error", Check.perform(new SaltWedge(), "r10"), 1);
        Check.tells("dig(40, 20)", x -> x.dig(40, 20), SaltWedge.UNKNOWN);
        Check.tells("build(-1, 0)", x -> x.build(-1, 0), SaltWedge.UNKNOWN);
        Check.tells("cell(40, 3)", x -> x.cell(40, 3), SaltWedge.UNKNOWN);
        Check.tells("setRate(4, 5)", x -> x.setRate(4, 5), SaltWedge.UNKNOWN);
        Check.tells("restsIn(1, -31)", x -> x.restsIn(1, -31), SaltWedge.BAD_VALUE);
        Check.tells("restsIn(1, -30)", x -> x.restsIn(1, -30), SaltWedge.NONE);
        Check.tells("restsIn(0, -30)", x -> x.restsIn(0, -30), SaltWedge.NOT_POSSIBLE);
        Check.tells("bestSill(61, -30)", x -> x.bestSill(61, -30), SaltWedge.BAD_VALUE);
        Check.tells("bestSill(60, -31)", x -> x.bestSill(60, -31), SaltWedge.BAD_VALUE);
        Check.tells("bestSill(60, -30)", x -> x.bestSill(60, -30), SaltWedge.NONE);
        Check.Setup endless = x -> x.set(1, 0);
        Check.refused("stopCell(31) of a tide without end", endless, x -> x.stopCell(31), SaltWedge.BAD_VALUE);
        Check.refused("stopCell(30) of a tide without end", endless, x -> x.stopCell(30), SaltWedge.NONE);
        Check.refused("stopped(2), nothing stopped", Check::fresh, x -> x.stopped(2), SaltWedge.BAD_VALUE);
        Check.refused("count(14), no tide yet", Check::fresh, x -> x.count(14), SaltWedge.BAD_VALUE);
    }

    private static void nothingIsChanged() {
        Doc.says("A call that returns an error or NONE changes nothing (but for the latest stop of perform()).");
        Check.tells("dig(0, 5)", x -> x.dig(0, 5), SaltWedge.NOT_POSSIBLE);
        Check.tells("build(30, 12)", x -> x.build(30, 12), SaltWedge.NOT_POSSIBLE);
        Check.tells("flow(10)", x -> x.flow(10), SaltWedge.NONE);
        Check.tells("set(2, 5)", x -> x.set(2, 5), SaltWedge.NONE);
        Check.tells("sink(5, 9)", x -> x.sink(5, 9), SaltWedge.NOT_POSSIBLE);
        Check.tells("fillIn(4)", x -> x.fillIn(4), SaltWedge.UNKNOWN);
        Check.tells("setRate(1, 4)", x -> x.setRate(1, 4), SaltWedge.NONE);
        Check.tells("tide(30, 0)", x -> x.tide(30, 0), SaltWedge.BAD_VALUE);
        Check.tells("restsIn(0, 0)", x -> x.restsIn(0, 0), SaltWedge.NOT_POSSIBLE);
        Check.tells("perform(), stopped as before", SaltWedge::perform, SaltWedge.NOT_POSSIBLE);
        SaltWedge x = Check.made(Check::some);
        Check.due("perform(), stopped in another place", Check.perform(x, "s1=3;t9;r2;s3=60"), SaltWedge.NOT_POSSIBLE);
        Check.due("the latest stop", x.stopped(0), 3);
        Check.due("the history", x.count(12), 4);
        Check.same("the state", Check.state(x), Check.state(Check.made(Check::some)));
        Check.due("the latest state", x.undo() * 100 + x.cell(30, 0), 320);
        Check.due("the snapshot", x.restore(), 5);
    }

    private static void constants() {
        Doc.says("The constants: `UNKNOWN = -1`: There is no such cell, well or setting.");
        Check.due("UNKNOWN", SaltWedge.UNKNOWN, -1);
        Check.tells("a cell", x -> x.cell(40, 0), -1);
        Check.tells("a well", x -> x.well(4, 0), -1);
        Check.tells("a setting", x -> x.set(3, 1), -1);

        Doc.says("`BAD_VALUE = -2`: Another argument is out of range.");
        Check.due("BAD_VALUE", SaltWedge.BAD_VALUE, -2);
        Check.tells("a depth", x -> x.dig(0, 61), -2);
        Check.tells("a rise", x -> x.stopCell(31), -2);

        Doc.says("`FULL = -3`: There is no more room.");
        Check.due("FULL", SaltWedge.FULL, -3);
        Check.refused("wells", Check::sixWells, x -> x.sink(30, 5), -3);
        Check.refused("characters", x -> Check.write(x, "t".repeat(60)), x -> x.type('t'), -3);
        Check.refused("tides", Check::almostAllTides, x -> x.tide(0, 10), -3);

        Doc.says("`NOT_POSSIBLE = -4`: This is not possible.");
        Check.due("NOT_POSSIBLE", SaltWedge.NOT_POSSIBLE, -4);
        Check.tells("a sill above the depth", x -> x.build(30, 12), -4);

        Doc.says("`NONE = -5`: There is no such thing; not an error.");
        Check.due("NONE", SaltWedge.NONE, -5);
        Check.tells("a well beside a cell", x -> x.cell(0, 3), -5);
    }

    private static void whatTheInterfaceSays() throws IOException {
        Doc.says("Ahead of the calls `dig`, `build`, `flow`, `set` the interface says: ---- the bed.");
        stand("the bed", "dig", "build", "flow", "set");

        Doc.says("Ahead of the calls `sink`, `fillIn`, `setRate`, `tide` the interface says: ---- wells, tides.");
        stand("wells, tides", "sink", "fillIn", "setRate", "tide");

        Doc.says("Ahead of the calls `type`, `clearText`, `perform`, `stopped` the interface says: ---- texts.");
        stand("texts", "type", "clearText", "perform", "stopped");

        Doc.says("Ahead of the calls `undo`, `keep`, `restore` the interface says: ---- history.");
        stand("history", "undo", "keep", "restore");

        Doc.says("Ahead of the calls `cell`, `well`, `reach`, `mark`, `stopCell`, `reason`, `restsIn`, `leastFlow`, "
            + "`bestSill`, `count` the interface says: ---- what is told.");
        stand("what is told", "cell", "well", "reach", "mark", "stopCell", "reason", "restsIn", "leastFlow",
            "bestSill", "count");
    }

    /** In the source these calls, and no others, stand behind the words. */
    private static void stand(String words, String... calls) throws IOException {
        String source = Files.readString(Path.of("src/main/java/SaltWedge.java"));
        int from = source.indexOf("    // ---- " + words + "\n");
        Check.hold("the source says ---- " + words, from >= 0);
        if (from < 0) {
            return;
        }
        int to = source.indexOf("    // ---- ", from + 1);
        List<String> found = new ArrayList<>();
        Matcher call = Pattern.compile("public int (\\w+)\\(").matcher(source.substring(from, to < 0 ? source.length() : to));
        while (call.find()) {
            found.add(call.group(1));
        }
        Check.hold("behind ---- " + words + " stand " + found, found.equals(List.of(calls)));
    }
}
