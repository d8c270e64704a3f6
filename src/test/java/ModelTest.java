import java.util.Random;
import java.util.function.IntSupplier;

/** Compares the class with the model on random runs (with fixed seeds, so that they are always the same). */
public final class ModelTest {
    private static final int RUNS = 800;
    private static final int CALLS = 120;

    private final Check check = new Check();
    private final Random random;
    private final long[] seen = new long[8];
    private CellHandover h = new CellHandover();
    private Model m = new Model();
    private String run;
    private int spread = 200;

    private ModelTest(long seed) {
        random = new Random(seed);
    }

    public static void main(String[] args) {
        ModelTest test = new ModelTest(args.length > 0 ? Long.parseLong(args[0]) : 1);
        int runs = args.length > 1 ? Integer.parseInt(args[1]) : RUNS;
        for (int i = 0; i < runs; i++) {
            test.oneRun(i);
        }
        for (int what = 0; what < 8; what++) {
            test.check.holds("random runs see total " + what, test.seen[what] > 0 || runs < RUNS);
        }
        test.check.end();
    }

    private void oneRun(int number) {
        run = "run " + number;
        h = new CellHandover();
        m = new Model();
        if (random.nextInt(10) > 0) {
            text(network());
        }
        int mobiles = random.nextInt(13);
        for (int i = 0; i < mobiles; i++) {
            addMobile();
        }
        for (int i = 0; i < CALLS; i++) {
            anyCall();
            compareAll();
        }
        for (int what = 0; what < 8; what++) {
            seen[what] += h.total(what);
        }
    }

    private int within(int low, int high) {
        return low + random.nextInt(high - low + 1);
    }

    /** Mostly a number of this range, now and then its edge or one outside. */
    private int near(int low, int high) {
        switch (random.nextInt(60)) {
            case 0: return low - 1;
            case 1: return high + 1;
            case 2: return random.nextInt();
            case 3: return random.nextBoolean() ? Integer.MIN_VALUE : Integer.MAX_VALUE;
            case 4: case 5: return low;
            case 6: case 7: return high;
            default: return high < low ? low : within(low, high);
        }
    }

    private int mobile() {
        return near(0, m.mobileCount() - 1);
    }

    private int cell() {
        return near(0, m.cellCount() - 1);
    }

    private void compare(String what, IntSupplier mine, IntSupplier due) {
        long a = answer(mine);
        long b = answer(due);
        check.is(a == b ? what : run + ": " + what, a, b);
    }

    private static long answer(IntSupplier call) {
        try {
            return call.getAsInt();
        } catch (IllegalArgumentException e) {
            return 1L << 40;
        } catch (java.util.NoSuchElementException e) {
            return 1L << 41;
        }
    }

    private void anyCall() {
        int a = cell();
        int b = cell();
        int mobile = mobile();
        switch (random.nextInt(24)) {
            case 0: addMobile(); break;
            case 1: case 22: case 23: setVelocity(mobile); break;
            case 2: case 3: case 4: case 5: case 6: case 7: {
                int duration = near(1, random.nextInt(4) == 0 ? 10 : 200);
                compare("call " + mobile, () -> h.call(mobile, duration), () -> m.call(mobile, duration));
                break;
            }
            case 8: compare("hangUp", () -> h.hangUp(mobile), () -> m.hangUp(mobile)); break;
            case 9: {
                int value = near(0, 30);
                compare("setHysteresis", () -> h.setHysteresis(a, b, value), () -> m.setHysteresis(a, b, value));
                break;
            }
            case 10: case 11: case 12: case 13: case 14: {
                int ticks = near(0, random.nextInt(24) == 0 ? 60 : 3);
                compare("run " + ticks, () -> h.run(ticks), () -> m.run(ticks));
                break;
            }
            case 15: {
                int ticks = near(0, 60);
                compare("forecastCell", () -> h.forecastCell(mobile, ticks), () -> m.forecastCell(mobile, ticks));
                break;
            }
            case 16: {
                int ticks = near(0, 30);
                if (random.nextInt(3) == 0) {
                    compare("bestHysteresis", () -> h.bestHysteresis(a, b, ticks), () -> m.bestHysteresis(a, b, ticks));
                }
                break;
            }
            case 17: compare("undo", () -> h.undo(), () -> m.undo()); break;
            case 18:
                if (random.nextInt(4) == 0) {
                    h.saveSnapshot();
                    m.saveSnapshot();
                } else if (random.nextInt(3) == 0) {
                    compare("restoreSnapshot", () -> h.restoreSnapshot() ? 1 : 0, () -> m.restoreSnapshot() ? 1 : 0);
                }
                break;
            case 19: ask(); break;
            case 20: survey(); break;
            default:
                if (random.nextInt(20) == 0) {
                    text(random.nextInt(3) == 0 ? network() : spoiled(network()));
                }
                break;
        }
    }

    private void addMobile() {
        int x = near(0, spread);
        int y = near(0, spread);
        int vx = random.nextInt(4) == 0 ? near(-99, 99) : near(-8, 8);
        int vy = random.nextInt(4) == 0 ? near(-99, 99) : near(-8, 8);
        compare("addMobile", () -> h.addMobile(x, y, vx, vy), () -> m.addMobile(x, y, vx, vy));
    }

    /** Mostly a velocity towards a point among the cells, so that mobiles stay near them. */
    private void setVelocity(int mobile) {
        boolean aimed = mobile >= 0 && mobile < m.mobileCount() && random.nextInt(6) > 0;
        int steps = within(2, 12);
        int vx = aimed ? (within(0, spread) - m.x(mobile)) / steps : near(-99, 99);
        int vy = aimed ? (within(0, spread) - m.y(mobile)) / steps : near(-99, 99);
        compare("setVelocity", () -> h.setVelocity(mobile, vx, vy), () -> m.setVelocity(mobile, vx, vy));
    }

    private void survey() {
        int a = cell();
        int x = near(0, 999);
        int y = near(0, 999);
        int margin = near(0, 30);
        compare("coverage", () -> h.coverage(a), () -> m.coverage(a));
        compare("missingRelation", () -> h.missingRelation(margin), () -> m.missingRelation(margin));
        compare("level", () -> h.level(a, x, y), () -> m.level(a, x, y));
        compare("strongestCell", () -> h.strongestCell(x, y), () -> m.strongestCell(x, y));
    }

    private int feed(String text) {
        for (int at = 0; at < text.length(); at += 20) {
            int a = Check.word(text, at);
            int b = Check.word(text, at + 4);
            int c = Check.word(text, at + 8);
            int d = Check.word(text, at + 12);
            int e = Check.word(text, at + 16);
            compare("feed", () -> h.feed(a, b, c, d, e), () -> m.feed(a, b, c, d, e));
        }
        return text.length();
    }

    private int length(String text) {
        int fed = feed(text);
        return random.nextInt(30) == 0 ? near(0, fed) : fed;
    }

    private void text(String text) {
        int length = length(text);
        compare("load " + text, () -> h.load(length), () -> m.load(length));
        compare("position in " + text, () -> h.errorPosition(), () -> m.errorPosition());
    }

    private void ask() {
        String text = (random.nextBoolean() ? "many " : "first ") + test(random.nextInt(5));
        String asked = random.nextInt(3) == 0 ? spoiled(text) : text;
        int length = length(asked);
        compare("query " + asked, () -> h.query(length), () -> m.query(length));
        compare("position in " + asked, () -> h.errorPosition(), () -> m.errorPosition());
    }

    private String test(int depth) {
        switch (random.nextInt(depth > 0 ? 8 : 2)) {
            case 2: return "not " + test(depth - 1);
            case 3: return "(" + test(depth - 1) + ")";
            case 4: case 5: return test(depth - 1) + " and " + test(depth - 1);
            case 6: case 7: return test(depth - 1) + "\nor " + test(depth - 1);
            default: return value() + " <=>".charAt(within(1, 3)) + value();
        }
    }

    private String value() {
        String[] names = {"mobile", "x", "y", "state", "cell", "left", "reports", "waits"};
        return random.nextInt(3) == 0 ? Integer.toString(random.nextInt(random.nextBoolean() ? 10 : 1000))
                : names[random.nextInt(names.length)];
    }

    private String spoiled(String text) {
        StringBuilder to = new StringBuilder(text);
        String[] parts = {"cell", "relation 0 1 2;", "settings", "many", "first", "not ", "not not not not not not not ",
            "((((((", "(", ")", "or", "and", "<", "=", "1", "9", "99999999999999999999", "x", ";", "\t", "\u00e9", "A", " ",
            "0 ", "-"};
        int changes = within(1, 2);
        for (int i = 0; i < changes; i++) {
            int at = random.nextInt(to.length() + 1);
            switch (random.nextInt(3)) {
                case 0:
                    to.delete(at, Math.min(to.length(), at + within(1, 6)));
                    break;
                default:
                    to.insert(at, parts[random.nextInt(parts.length)]);
                    break;
            }
        }
        return to.toString();
    }

    /** A network in which handovers are frequent: cells near one another, with few channels. */
    private String network() {
        StringBuilder to = new StringBuilder();
        int cells = random.nextInt(20) == 0 ? 9 : random.nextInt(3) == 0 ? within(1, 8) : within(2, 4);
        spread = random.nextInt(6) == 0 ? 999 : within(40, 300);
        int slope = within(5, 25);
        int low = random.nextInt(3) * 30;
        for (int i = 0; i < cells; i++) {
            clause(to, "cell", within(0, spread), within(0, spread), within(60, 99),
                    random.nextInt(5) == 0 ? within(1, 50) : within(slope - 3, slope + 3),
                    within(1, random.nextInt(4) == 0 ? 8 : 3), within(0, random.nextInt(4) == 0 ? 6 : 2),
                    random.nextInt(2) * within(0, 30), within(low, low + 39));
        }
        int relations = random.nextInt(20) == 0 ? 60 : within(cells, 6 * cells);
        boolean[] made = new boolean[81];
        for (int i = 0; i < relations; i++) {
            int a = random.nextInt(cells);
            int b = random.nextInt(cells);
            if (a != b && !made[a * 9 + b] || random.nextInt(400) == 0) {
                made[a * 9 + b] = true;
                clause(to, "relation", a, b, random.nextInt(4) == 0 ? within(0, 30) : within(0, 5));
            }
        }
        if (random.nextInt(4) > 0) {
            int window = within(1, 8);
            clause(to, "settings", window, within(1, random.nextInt(3) > 0 ? Math.min(2, window) : window),
                    random.nextBoolean() ? within(0, 50) : within(0, 6), within(1, random.nextBoolean() ? 30 : 4),
                    random.nextInt(4) == 0 ? within(0, 60) : within(0, 10), within(1, random.nextBoolean() ? 20 : 4));
        }
        return to.toString();
    }

    private void clause(StringBuilder to, String name, int... numbers) {
        to.append(name);
        for (int number : numbers) {
            to.append(random.nextInt(50) == 0 ? "\n" : " ").append(random.nextInt(60) == 0 ? "0" : "").append(number);
        }
        to.append(random.nextInt(20) == 0 ? " ; " : ";");
    }

    private void compareAll() {
        compare("cellCount", () -> h.cellCount(), () -> m.cellCount());
        compare("relationCount", () -> h.relationCount(), () -> m.relationCount());
        compare("mobileCount", () -> h.mobileCount(), () -> m.mobileCount());
        compare("clock", () -> h.clock(), () -> m.clock());
        compare("undoCount", () -> h.undoCount(), () -> m.undoCount());
        compare("errorPosition", () -> h.errorPosition(), () -> m.errorPosition());
        for (int i = -1; i <= 8; i++) {
            int what = i;
            compare("total " + what, () -> h.total(what), () -> m.total(what));
        }
        for (int i = -1; i <= m.cellCount(); i++) {
            compareCell(i);
        }
        for (int i = -1; i <= m.mobileCount(); i++) {
            compareMobile(i);
        }
    }

    private void compareCell(int cell) {
        compare("busyChannels", () -> h.busyChannels(cell), () -> m.busyChannels(cell));
        compare("queueLength", () -> h.queueLength(cell), () -> m.queueLength(cell));
        compare("congestedTicks", () -> h.congestedTicks(cell), () -> m.congestedTicks(cell));
        for (int i = -1; i <= 7; i++) {
            int index = i;
            compare("queued " + cell + " " + i, () -> h.queued(cell, index), () -> m.queued(cell, index));
        }
        for (int i = -1; i <= m.cellCount(); i++) {
            int to = i;
            compare("hysteresis", () -> h.hysteresis(cell, to), () -> m.hysteresis(cell, to));
            compare("successes", () -> h.successes(cell, to), () -> m.successes(cell, to));
            compare("refusals", () -> h.refusals(cell, to), () -> m.refusals(cell, to));
        }
    }

    private void compareMobile(int mobile) {
        compare("x", () -> h.x(mobile), () -> m.x(mobile));
        compare("y", () -> h.y(mobile), () -> m.y(mobile));
        compare("state", () -> h.state(mobile), () -> m.state(mobile));
        compare("servingCell", () -> h.servingCell(mobile), () -> m.servingCell(mobile));
        compare("remaining", () -> h.remaining(mobile), () -> m.remaining(mobile));
        compare("requestCell", () -> h.requestCell(mobile), () -> m.requestCell(mobile));
        for (int i = -1; i <= 8; i++) {
            int index = i;
            compare("candidate " + i, () -> h.candidate(mobile, index), () -> m.candidate(mobile, index));
        }
        for (int i = -1; i <= m.cellCount(); i++) {
            int cell = i;
            compare("average " + mobile + " " + i, () -> h.average(mobile, cell), () -> m.average(mobile, cell));
            compare("reportCount", () -> h.reportCount(mobile, cell), () -> m.reportCount(mobile, cell));
            compare("isBarred", () -> h.isBarred(mobile, cell) ? 1 : 0, () -> m.isBarred(mobile, cell) ? 1 : 0);
        }
    }
}
