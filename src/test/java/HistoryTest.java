import java.util.ArrayList;
import java.util.List;

/** Promises 39 to 42: undoing, and the snapshot. */
public final class HistoryTest {
    private static final String NETWORK = "cell 0 0 40 10 2 2 0 41;cell 0 0 50 10 1 6 0 0;cell 0 0 48 10 1 2 0 0;"
            + "relation 1 0 0;relation 1 2 0;relation 0 1 5;relation 0 2 0;settings 2 1 5 3 45 4;";
    private static final Check CHECK = new Check();

    public static void main(String[] args) {
        twelve();
        whatIsRecorded();
        whatIsNot();
        everythingComesBack();
        hiddenThings();
        snapshots();
        snapshotOfNothing();
        snapshotAndUndo();
        CHECK.end();
    }

    private static void twelve() {
        CellHandover h = new CellHandover();
        h.addMobile(0, 0, 0, 0);
        for (int i = 1; i <= 40; i++) {
            h.setVelocity(0, i, 0);
            CHECK.is("undoCount", h.undoCount(), Math.min(12, i + 1));
        }
        for (int left = 11; left >= 0; left--) {
            CHECK.is("undo", h.undo(), left);
            CHECK.is("undoCount", h.undoCount(), left);
        }
        CHECK.is("nothing left", h.undo(), -1);
        CHECK.is("undoCount", h.undoCount(), 0);
        h.run(1);
        CHECK.is("the 28th velocity", h.x(0), 28);
        CHECK.is("undo the run", h.undo(), 0);
        CHECK.is("x", h.x(0), 0);
        CHECK.is("clock", h.clock(), 0);
        for (int round = 0; round < 3; round++) {
            for (int i = 0; i < 5; i++) {
                h.addMobile(i, 0, 0, 0);
            }
            CHECK.is("undo", h.undo(), 4 + 3 * round);
            CHECK.is("undo", h.undo(), 3 + 3 * round);
            CHECK.is("mobiles", h.mobileCount(), 4 + 3 * round);
        }
    }

    private static void whatIsRecorded() {
        CellHandover h = Check.loaded(NETWORK);
        CHECK.is("loaded", h.undoCount(), 0);
        h.addMobile(0, 0, 0, 0);
        CHECK.is("addMobile", h.undoCount(), 1);
        h.setVelocity(0, 0, 0);
        CHECK.is("setVelocity", h.undoCount(), 2);
        h.call(0, 5);
        CHECK.is("call", h.undoCount(), 3);
        h.hangUp(0);
        CHECK.is("hangUp", h.undoCount(), 4);
        h.setHysteresis(0, 1, 5);
        CHECK.is("setHysteresis", h.undoCount(), 5);
        h.run(0);
        CHECK.is("run", h.undoCount(), 6);
        CHECK.is("undo", h.undo(), 5);
        CHECK.is("mobile", h.mobileCount(), 1);
        while (h.undoCount() > 0) {
            h.undo();
        }
        CHECK.is("mobile", h.mobileCount(), 0);
        CellHandover g = Check.loaded("cell 0 0 60 10 1 1 0 0;");
        for (int i = 0; i < 3; i++) {
            g.addMobile(0, 0, 0, 0);
        }
        g.call(0, 5);
        CHECK.is("waits", g.call(1, 5), -3);
        CHECK.is("recorded", g.undoCount(), 5);
        CHECK.is("blocked", g.call(2, 5), -5);
        CHECK.is("recorded", g.undoCount(), 6);
        g.undo();
        CHECK.is("blocked", g.total(4), 0);
        CHECK.is("queue", g.queueLength(0), 1);
        g.undo();
        CHECK.is("queue", g.queueLength(0), 0);
        CHECK.is("state", g.state(1), 0);
        CHECK.is("remaining", g.remaining(1), 0);
        g.undo();
        CHECK.is("busy", g.busyChannels(0), 0);
        CHECK.is("state", g.state(0), 0);
    }

    private static void whatIsNot() {
        CellHandover h = Check.loaded(NETWORK + "cell 999 999 9 50 1 0 99 0;");
        h.addMobile(0, 0, 0, 0);
        h.addMobile(999, 999, 0, 0);
        h.call(0, 50);
        h.run(1);
        CHECK.is("undoCount", h.undoCount(), 4);
        CHECK.is("call of a talking one", h.call(0, 5), -2);
        CHECK.is("no coverage", h.call(1, 5), -4);
        CHECK.is("hangUp of an idle one", h.hangUp(1), -2);
        CHECK.is("no relation", h.setHysteresis(2, 0, 5), -2);
        CHECK.illegal("run", () -> h.run(61));
        CHECK.illegal("addMobile", () -> h.addMobile(0, 0, 0, 100));
        h.forecastCell(0, 5);
        h.bestHysteresis(0, 1, 5);
        h.coverage(0);
        h.missingRelation(5);
        h.candidate(0, 0);
        Check.ask(h, "many x=0");
        h.saveSnapshot();
        Check.load(h, "foo");
        CHECK.is("undoCount", h.undoCount(), 4);
        CHECK.is("undo", h.undo(), 3);
        CHECK.is("clock", h.clock(), 0);
    }

    private static void everythingComesBack() {
        CellHandover h = Check.loaded(NETWORK);
        List<String> scenes = new ArrayList<>();
        int[][] calls = {{0, 0}, {0, 0}, {0, 0}, {0, 0}, {0, 0}, {0, 0}};
        for (int i = 0; i < calls.length; i++) {
            h.addMobile(0, 0, 0, 0);
        }
        for (int i = 0; i < 5; i++) {
            scenes.add(Check.scene(h));
            h.call(i, 3 + 4 * i);
        }
        int[] ticks = {1, 1, 2, 1, 3, 1};
        for (int i = 0; i < ticks.length; i++) {
            scenes.add(Check.scene(h));
            h.run(ticks[i]);
        }
        scenes.add(Check.scene(h));
        h.setHysteresis(0, 2, 9);
        String last = Check.scene(h);
        CHECK.holds("something was served", h.total(6) > 0);
        CHECK.holds("something was handed over", h.total(0) > 0);
        for (int i = scenes.size() - 1; i >= 0; i--) {
            CHECK.is("undo", h.undo(), i);
            CHECK.holds("scene " + i, scenes.get(i).equals(Check.scene(h)));
        }
        // What the face does not show, such as bad ticks and the ticks of requests, has come back too.
        for (int i = 0; i < 5; i++) {
            CHECK.holds("scene " + i, scenes.get(i).equals(Check.scene(h)));
            h.call(i, 3 + 4 * i);
        }
        for (int i = 0; i < ticks.length; i++) {
            CHECK.holds("scene " + (5 + i), scenes.get(5 + i).equals(Check.scene(h)));
            h.run(ticks[i]);
            if (i % 2 == 0) {
                h.undo();
                h.run(ticks[i]);
            }
        }
        h.setHysteresis(0, 2, 9);
        CHECK.holds("the last scene", last.equals(Check.scene(h)));
    }

    /** What only later ticks show: velocities, levels of reports, ticks of requests, bad ticks, bars. */
    private static void hiddenThings() {
        CellHandover h = Check.loaded("cell 0 0 60 10 1 6 0 0;settings 3 1 5 9 0 2;");
        h.addMobile(5, 5, 3, 4);
        h.addMobile(0, 0, 0, 0);
        h.addMobile(0, 0, 0, 0);
        h.setVelocity(0, 50, 60);
        h.call(0, 90);
        h.run(2);
        CHECK.is("average", h.average(0, 0), (60 - 12 + 60 - 23) / 2);
        h.run(3);
        CHECK.is("undo", h.undo(), 6);
        CHECK.is("average", h.average(0, 0), (60 - 12 + 60 - 23) / 2);
        CHECK.is("undo", h.undo(), 5);
        CHECK.is("undo", h.undo(), 4);
        CHECK.is("undo the velocity", h.undo(), 3);
        h.run(1);
        CHECK.is("x", h.x(0), 8);
        CHECK.is("y", h.y(0), 9);
        h.setVelocity(0, 0, 0);
        h.call(0, 90);
        h.call(2, 90);
        h.run(1);
        h.call(1, 90);
        CHECK.is("the earlier one first", h.queued(0, 0), 2);
        h.hangUp(2);
        h.call(2, 90);
        CHECK.is("the smaller one first", h.queued(0, 0), 1);
        h.undo();
        h.undo();
        CHECK.is("the earlier one first again", h.queued(0, 0), 2);
        // The request of tick 1 ends in tick 10; the clock is 2.
        h.run(8);
        CHECK.is("not yet", h.state(2), 2);
        h.run(1);
        CHECK.is("the queue time of the earlier one", h.state(2), 0);
        CHECK.is("the later one", h.state(1), 2);
        h.undo();
        h.saveSnapshot();
        h.undo();
        CHECK.holds("restore", h.restoreSnapshot());
        h.run(1);
        CHECK.is("the queue time of the earlier one", h.state(2), 0);
        CHECK.is("the later one", h.state(1), 2);
    }

    private static void snapshots() {
        CellHandover h = Check.loaded(NETWORK);
        CHECK.fails("no snapshot", h.restoreSnapshot());
        h.addMobile(0, 0, 0, 0);
        h.addMobile(0, 0, 0, 0);
        h.addMobile(0, 0, 0, 0);
        h.call(0, 50);
        h.call(1, 50);
        h.call(2, 50);
        h.run(2);
        CHECK.is("undoCount", h.undoCount(), 7);
        h.saveSnapshot();
        CHECK.is("undoCount", h.undoCount(), 7);
        String saved = Check.scene(h);
        h.run(9);
        h.setHysteresis(0, 1, 30);
        h.addMobile(5, 5, 5, 5);
        String later = Check.scene(h);
        CHECK.fails("changed", saved.equals(later));
        CHECK.holds("restore", h.restoreSnapshot());
        CHECK.holds("restored", saved.equals(Check.scene(h)));
        CHECK.is("undoCount", h.undoCount(), 0);
        CHECK.is("undo", h.undo(), -1);
        h.run(9);
        h.setHysteresis(0, 1, 30);
        h.addMobile(5, 5, 5, 5);
        CHECK.holds("the same again", later.equals(Check.scene(h)));
        h.undo();
        CHECK.holds("restore again", h.restoreSnapshot());
        CHECK.holds("kept", saved.equals(Check.scene(h)));
        h.run(3);
        h.saveSnapshot();
        String second = Check.scene(h);
        h.run(1);
        CHECK.holds("restore", h.restoreSnapshot());
        CHECK.holds("the second one", second.equals(Check.scene(h)));
        Check.load(h, "cell 5 5 5 5 5 5 5 5;settings 8 8 1 1 1 1;");
        h.addMobile(1, 1, 1, 1);
        CHECK.is("cells", h.cellCount(), 1);
        CHECK.holds("restore", h.restoreSnapshot());
        CHECK.holds("the second one, with its network", second.equals(Check.scene(h)));
        h.run(2);
        CHECK.is("and its settings", h.reportCount(0, 1), 2);
        Check.load(h, "foo");
        CHECK.holds("restore after an error", h.restoreSnapshot());
        CHECK.is("position", h.errorPosition(), 0);
    }

    private static void snapshotOfNothing() {
        CellHandover h = new CellHandover();
        h.saveSnapshot();
        Check.load(h, NETWORK);
        h.addMobile(0, 0, 0, 0);
        CHECK.holds("restore", h.restoreSnapshot());
        CHECK.is("cells", h.cellCount(), 0);
        CHECK.is("relations", h.relationCount(), 0);
        CHECK.is("mobiles", h.mobileCount(), 0);
    }

    private static void snapshotAndUndo() {
        CellHandover h = Check.loaded(NETWORK);
        h.addMobile(0, 0, 0, 0);
        h.addMobile(1, 1, 1, 1);
        h.saveSnapshot();
        h.undo();
        CHECK.is("mobiles", h.mobileCount(), 1);
        CHECK.holds("undoing leaves the snapshot", h.restoreSnapshot());
        CHECK.is("mobiles", h.mobileCount(), 2);
        h.addMobile(2, 2, 2, 2);
        h.restoreSnapshot();
        CHECK.is("undoCount", h.undoCount(), 0);
        h.addMobile(3, 3, 3, 3);
        CHECK.is("undo", h.undo(), 0);
        CHECK.is("mobiles", h.mobileCount(), 2);
        Check.feed(h, "many x=1");
        h.addMobile(3, 3, 3, 3);
        h.undo();
        CHECK.holds("restore", h.restoreSnapshot());
        CHECK.is("the buffer stays", h.query(8), 1);
    }
}
