/** Promises 14 to 16: undo, keep, restore. */
public final class HistoryTest {
    public static void main(String[] args) {
        undo();
        keep();
        restore();
        Check.end();
    }

    /** Promise 14. */
    private static void undo() {
        SaltWedge x = new SaltWedge();
        Check.due("undo of nothing", x.undo(), SaltWedge.NONE);
        for (int flow = 1; flow <= 6; flow++) {
            x.flow(flow);
            Check.due("undo: count(12)", x.count(12), Math.min(flow, 4));
        }
        for (int left = 3; left >= 0; left--) {
            Check.due("undo", x.undo(), left);
            Check.due("undo: the flow", x.count(1), left + 2);
            Check.due("undo: count(12)", x.count(12), left);
        }
        Check.due("undo: the oldest ones were dropped", x.undo(), SaltWedge.NONE);
        Check.due("undo: the flow stays", x.count(1), 2);
        x.flow(70);
        Check.due("undo: and on", x.undo(), 0);
        Check.due("undo: the flow of then", x.count(1), 2);

        Check.refused("undo of nothing changes nothing", y -> {
            y.tide(5, 5);
            y.undo();
            Check.write(y, "s2=60;t");
        }, SaltWedge::undo, SaltWedge.NONE);

        SaltWedge z = new SaltWedge();
        z.tide(9, 3);
        z.keep();
        z.type('t');
        z.flow(3);
        Check.due("undo keeps the text", z.undo(), 1);
        Check.due("undo: count(13)", z.count(13), 1);
        Check.due("undo: one more", z.undo(), 0);
        Check.due("undo keeps the snapshot", z.restore(), 3);
        Check.due("undo: the tides", z.count(0), 3);
        Check.due("undo of restore()", z.undo(), 0);
        Check.due("undo: the tides of then", z.count(0), 0);
    }

    /** Promise 15. */
    private static void keep() {
        SaltWedge x = new SaltWedge();
        Check.due("keep of nothing", x.keep(), 0);
        x.tide(9, 3);
        Check.due("keep", x.keep(), 3);
        Check.due("keep is no act", x.count(12), 1);
        x.tide(9, 4);
        Check.due("keep: in place of the other one", x.keep(), 7);
        x.tide(9, 4);
        x.flow(4);
        Check.due("keep: the later one is restored", x.restore(), 7);
        Check.due("keep: its flow", x.count(1), 10);
        Check.due("keep, then undo()", x.undo(), 3);
        Check.due("keep stays behind undo()", x.restore(), 7);
        Check.due("keep is not changed by tides", x.tide(30, 9), 20);
        Check.due("keep: the same again", x.restore(), 7);
    }

    /** Promise 16. */
    private static void restore() {
        Check.refused("restore without a snapshot", x -> x.tide(9, 9), SaltWedge::restore, SaltWedge.NONE);
        Check.act("restore", x -> {
            x.sink(2, 29);
            x.tide(9, 9);
            x.keep();
            x.fillIn(0);
            x.dig(30, 40);
            x.tide(-30, 9);
        }, SaltWedge::restore, 9);
        Check.act("restore of what is so already", SaltWedge::keep, SaltWedge::restore, 0);

        SaltWedge kept = new SaltWedge();
        SaltWedge same = new SaltWedge();
        for (SaltWedge x : new SaltWedge[] {kept, same}) {
            x.sink(2, 29);
            x.sink(3, 5);
            x.set(0, 33);
            x.set(1, 2);
            x.set(2, 9);
            x.dig(1, 44);
            x.build(9, 11);
            x.flow(6);
            x.tide(9, 9);
        }
        kept.keep();
        kept.fillIn(0);
        kept.sink(20, 1);
        kept.setRate(0, 30);
        kept.set(0, 3);
        kept.set(1, 4);
        kept.set(2, 5);
        kept.dig(1, 60);
        kept.build(9, 1);
        kept.flow(60);
        kept.tide(30, 9);
        Check.write(kept, "t4");
        Check.due("restore", kept.restore(), 9);
        Check.same("restore: all is as it was", Check.state(kept), Check.state(same));
        Check.due("restore: the text stays", kept.count(13), 2);
        Check.due("restore: count(12)", kept.count(12), 4);
        kept.tide(3, 3);
        Check.due("restore: the snapshot stays", kept.restore(), 9);
        Check.due("restore: undo()", kept.undo(), 3);
        Check.due("restore: the tides before", kept.count(0), 12);
    }
}
