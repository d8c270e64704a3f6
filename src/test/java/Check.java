import java.util.NoSuchElementException;

/** Counts the answers that are not due, and feeds texts. */
final class Check {
    private int checks;
    private int wrong;

    void is(String what, long got, long due) {
        checks++;
        if (got != due) {
            wrong++;
            System.out.println(what + " answered " + got + ", due is " + due);
        }
    }

    void same(String what, String got, String due) {
        checks++;
        if (!got.equals(due)) {
            wrong++;
            System.out.println(what + " answered " + got + ", due is " + due);
        }
    }

    void holds(String what, boolean got) {
        is(what, got ? 1 : 0, 1);
    }

    void fails(String what, boolean got) {
        is(what, got ? 1 : 0, 0);
    }

    void noSuch(String what, Runnable call) {
        isThrown(what, call, NoSuchElementException.class);
    }

    void illegal(String what, Runnable call) {
        isThrown(what, call, IllegalArgumentException.class);
    }

    private void isThrown(String what, Runnable call, Class<?> due) {
        checks++;
        Class<?> thrown = null;
        try {
            call.run();
        } catch (RuntimeException e) {
            thrown = e.getClass();
        }
        if (thrown != due) {
            wrong++;
            System.out.println(what + " threw " + thrown + ", due is " + due);
        }
    }

    int checks() {
        return checks;
    }

    int wrong() {
        return wrong;
    }

    /** Ends the program with 1 if an answer was wrong. */
    void end() {
        System.out.println(checks + " checks, " + wrong + " wrong");
        if (wrong != 0 || checks == 0) {
            System.exit(1);
        }
    }

    /** Feeds a text of characters 0 to 255, filled up with spaces; answers its length. */
    static int feed(CellHandover h, String text) {
        for (int at = 0; at < text.length(); at += 20) {
            h.feed(word(text, at), word(text, at + 4), word(text, at + 8), word(text, at + 12), word(text, at + 16));
        }
        return text.length();
    }

    static int word(String text, int at) {
        int word = 0;
        for (int i = at; i < at + 4; i++) {
            word = word << 8 | (i < text.length() ? text.charAt(i) : ' ');
        }
        return word;
    }

    static int load(CellHandover h, String text) {
        return h.load(feed(h, text));
    }

    static CellHandover loaded(String text) {
        CellHandover h = new CellHandover();
        if (load(h, text) < 0) {
            throw new IllegalStateException("bad network at " + h.errorPosition() + ": " + text);
        }
        return h;
    }

    static int ask(CellHandover h, String text) {
        return h.query(feed(h, text));
    }

    /** Everything that the face shows, to see that nothing has changed. */
    static String picture(CellHandover h) {
        StringBuilder to = new StringBuilder(scene(h));
        add(to, h.undoCount(), h.errorPosition());
        return to.toString();
    }

    /** What operations change and undoing restores, as far as the face shows it. */
    static String scene(CellHandover h) {
        StringBuilder to = new StringBuilder();
        add(to, h.cellCount(), h.relationCount(), h.mobileCount(), h.clock());
        for (int what = 0; what < 8; what++) {
            add(to, h.total(what));
        }
        for (int cell = 0; cell < h.cellCount(); cell++) {
            add(to, h.busyChannels(cell), h.queueLength(cell), h.congestedTicks(cell), h.level(cell, 0, 0));
            for (int i = 0; i < 6; i++) {
                add(to, h.queued(cell, i));
            }
            for (int other = 0; other < h.cellCount(); other++) {
                add(to, h.hysteresis(cell, other), h.successes(cell, other), h.refusals(cell, other));
            }
        }
        for (int mobile = 0; mobile < h.mobileCount(); mobile++) {
            add(to, h.x(mobile), h.y(mobile), h.state(mobile), h.servingCell(mobile), h.remaining(mobile));
            add(to, h.requestCell(mobile), h.candidate(mobile, 0));
            for (int cell = 0; cell < h.cellCount(); cell++) {
                add(to, h.average(mobile, cell), h.reportCount(mobile, cell), h.isBarred(mobile, cell) ? 1 : 0);
            }
        }
        return to.toString();
    }

    private static void add(StringBuilder to, int... numbers) {
        for (int number : numbers) {
            to.append(number).append(' ');
        }
        to.append('|');
    }
}
