/** The sentences of "Considering a handover". */
final class HandoverSentences {
    private static final String AT = "Considering a handover";
    private static final String LINKS = "relation 1 0 0;relation 0 1 0;";

    private HandoverSentences() {
    }

    /** Mobile 1 talks in cell 0 (level 40), and cell 1 (level 50) has become free. */
    private static CellHandover free(String zero, String one, String rest) {
        CellHandover h = Nets.with("cell 0 0 40 10 ", zero, ";cell 0 0 50 10 ", one, ";", rest);
        Nets.callers(h, 2);
        h.hangUp(0);
        return h;
    }

    /** Mobile 2 talks in cell 0 (level 40), mobile 0 in cell 1 (level 50), and mobile 1 in cell 2 (level 48). */
    private static CellHandover three(String zero, String one, String two, String settings) {
        CellHandover h = Nets.with("cell 0 0 40 10 ", zero, ";cell 0 0 50 10 ", one, ";cell 0 0 48 10 ", two,
                ";relation 1 0 0;relation 1 2 0;relation 0 1 0;relation 0 2 0;", settings);
        Nets.callers(h, 3);
        return h;
    }

    private static String settings(int window, int reports) {
        return Nets.settings(window, reports, 5, 30, 0, 3);
    }

    @Says(at = AT, value = "Nothing happens if the serving cell has no reports.")
    static void noReports(Check c) {
        CellHandover h = Nets.with("cell 0 0 60 10 1 6 0 99;cell 100 0 60 10 1 6 0 0;relation 0 1 0;", settings(1, 1));
        Nets.callers(h, 2);
        h.addMobile(40, 0, 20, 0);
        c.is("waits at 0", h.call(2, 9), -3);
        h.hangUp(0);
        c.is("talks from step 5 on, at a place where cell 1 has the greater level", h.run(1), 0);
        c.is("servingCell", h.servingCell(2), 0);
        c.is("no candidate", h.candidate(2, 0), -1);
        c.is("no request", h.requestCell(2), -1);
        c.is("no refusal", h.refusals(0, 1), 0);
        h.hangUp(1);
        c.is("the next tick", h.run(1), 1);
        c.is("no refusal", h.refusals(0, 1), 0);
    }

    @Says(at = AT, value = "The situation is an emergency if the average of the serving cell is less than its low level.")
    @Break({"void rank(", "served < network.cellAt(mobile.serving).lowLevel",
            "served <= network.cellAt(mobile.serving).lowLevel"})
    @Break({"void rank(", "served < network.cellAt(mobile.serving).lowLevel",
            "served < network.cellAt(mobile.serving).lowLevel - 1"})
    @Break({"void rank(", "served < network.cellAt(mobile.serving).lowLevel", "served < network.cellAt(1).lowLevel"})
    static void emergencies(Check c) {
        c.is("40 is not less than 40", free("1 0 0 40", "1 0 0 99", "relation 1 0 0;relation 0 1 30;" + settings(1, 1))
                .run(1), 0);
        c.is("40 is less than 41", free("1 0 0 41", "1 0 0 0", "relation 1 0 0;relation 0 1 30;" + settings(1, 1))
                .run(1), 1);
        c.is("nothing is less than 0", free("1 0 0 0", "1 0 0 0", "relation 1 0 0;relation 0 1 30;" + settings(1, 1))
                .run(1), 0);
        // The average counts, not the latest level: 41 and 39 are not less than 40.
        CellHandover h = Nets.with("cell 0 0 60 10 1 0 0 40;cell 0 0 50 5 1 0 0 0;relation 0 1 30;",
                settings(2, 1));
        h.addMobile(190, 0, 0, 0);
        h.call(0, 500);
        h.run(1);
        h.setVelocity(0, 20, 0);
        c.is("41 and 39", h.run(1), 0);
        c.is("average", h.average(0, 0), 40);
        c.is("39 and 37", h.run(1), 1);
    }

    @Says(at = AT, value = "A neighbour of the serving cell is a candidate if it has at least the minimum number of reports,")
    @Break({"private int marginOf", "< network.minReports", "<= network.minReports"})
    @Break({"private int marginOf", "< network.minReports", "< network.minReports - 1"})
    @Break({"private int marginOf", "!relation.exists || ", ""})
    static void enoughReports(Check c) {
        for (int reports = 1; reports <= 8; reports++) {
            CellHandover h = free("1 0 0 0", "1 0 0 0", LINKS + settings(8, reports));
            h.setHysteresis(0, 1, 30);
            h.run(reports - 1);
            h.setHysteresis(0, 1, 0);
            c.is("one too few of " + reports, h.candidate(1, 0), -1);
            h.setHysteresis(0, 1, 30);
            h.run(1);
            h.setHysteresis(0, 1, 0);
            c.is("just " + reports, h.candidate(1, 0), 1);
        }
        // Cell 2 has reports from the time in cell 0, but no relation leads to it from cell 1.
        CellHandover g = Nets.with("cell 0 0 60 10 1 0 0 0;cell 100 0 61 10 1 0 0 0;cell 100 0 70 10 1 0 0 0;",
                "relation 0 1 0;relation 0 2 20;", settings(1, 1));
        g.addMobile(0, 0, 60, 0);
        c.is("cell 0", g.call(0, 500), 0);
        c.is("to cell 1", g.run(1), 1);
        c.is("servingCell", g.servingCell(0), 1);
        c.is("cell 2 has a report", g.reportCount(0, 2), 1);
        c.is("but is no neighbour", g.candidate(0, 0), -1);
    }

    @Says(at = AT, value = "its average is at least its access level,")
    @Break({"private int marginOf", "average < network.cellAt(cell).accessLevel",
            "average <= network.cellAt(cell).accessLevel"})
    @Break({"private int marginOf", "average < network.cellAt(cell).accessLevel",
            "average < network.cellAt(cell).accessLevel - 1"})
    @Break({"private int marginOf", "average < network.cellAt(cell).accessLevel",
            "!emergency && average < network.cellAt(cell).accessLevel"})
    @Break({"private int marginOf", "average < network.cellAt(cell).accessLevel",
            "average < network.cellAt(mobile.serving).accessLevel"})
    static void enoughAccess(Check c) {
        c.is("50 for 50", handovers(c, 50, 0), 1);
        c.is("50 for 51", handovers(c, 51, 0), 0);
        c.is("50 for 50, in an emergency", handovers(c, 50, 99), 1);
        c.is("50 for 51, in an emergency", handovers(c, 51, 99), 0);
    }

    /** The handovers of a tick from cell 0 (with level 40) to cell 1 (with level 50). */
    private static int handovers(Check c, int access, int low) {
        CellHandover h = Nets.with(Nets.cell(40, 1, 1, 0, low), Nets.cell(50, 1, 1, access, 0), "relation 0 1 0;",
                Nets.cell(60, 1, 0, 0, 0), "relation 2 0 0;", settings(1, 1));
        Nets.callers(h, 2);
        c.is("servingCell", h.servingCell(1), 0);
        return h.run(1);
    }

    @Says(at = AT, value = "and its margin is above 0.")
    @Break({"void rank(", "margin > 0", "margin >= 0"})
    @Break({"void rank(", "margin > 0", "margin > 1"})
    static void marginsAboveZero(Check c) {
        c.is("10 - 9", free("1 0 0 0", "1 0 0 0", "relation 1 0 0;relation 0 1 9;" + settings(1, 1)).run(1), 1);
        c.is("10 - 10", free("1 0 0 0", "1 0 0 0", "relation 1 0 0;relation 0 1 10;" + settings(1, 1)).run(1), 0);
        c.is("10 - 11", free("1 0 0 0", "1 0 0 0", "relation 1 0 0;relation 0 1 11;" + settings(1, 1)).run(1), 0);
        CellHandover h = Nets.with("cell 0 0 60 10 1 0 0 99;cell 100 0 60 10 1 0 0 0;relation 0 1 30;", settings(1, 1));
        h.addMobile(49, 0, 1, 0);
        h.call(0, 500);
        c.is("55 - 55, in an emergency", h.run(1), 0);
        c.is("56 - 55, in an emergency", h.run(1), 1);
    }

    @Says(at = AT, value = "The margin is the average of the neighbour minus the average of the serving cell, minus the "
            + "hysteresis of the relation unless it is an emergency.")
    @Break({"private int marginOf", "emergency ? margin : margin - relation.hysteresis", "margin - relation.hysteresis"})
    @Break({"private int marginOf", "emergency ? margin : margin - relation.hysteresis", "margin"})
    @Break({"private int marginOf", "emergency ? margin : margin - relation.hysteresis",
            "emergency ? margin : margin - network.relationAt(cell, mobile.serving).hysteresis"})
    static void margins(Check c) {
        CellHandover h = three("1 0 0 0", "1 0 0 0", "1 0 0 0", settings(1, 1));
        h.run(1);
        c.is("10 before 8", h.candidate(2, 0), 1);
        h.setHysteresis(0, 1, 3);
        c.is("7 behind 8", h.candidate(2, 0), 2);
        h.setHysteresis(0, 2, 2);
        c.is("7 before 6", h.candidate(2, 0), 1);
        h.setHysteresis(1, 0, 30);
        c.is("the relation back does not count", h.candidate(2, 0), 1);
        CellHandover g = three("1 0 0 99", "1 0 0 0", "1 0 0 0", settings(1, 1));
        g.run(1);
        g.setHysteresis(0, 1, 30);
        c.is("10 before 8 in an emergency", g.candidate(2, 0), 1);
        c.is("and 8", g.candidate(2, 1), 2);
    }

    /** A mobile that is handed over from cell 0 to cell 1 at the clock 0, and then comes back. */
    private static CellHandover returner(int pingPong, int low) {
        CellHandover h = Nets.with("cell 0 0 60 10 1 0 0 0;cell 100 0 60 10 1 0 0 ", Integer.toString(low),
                ";relation 0 1 0;relation 1 0 0;", Nets.settings(1, 1, pingPong, 30, 0, 3));
        h.addMobile(40, 0, 20, 0);
        h.call(0, 500);
        h.run(1);
        h.setVelocity(0, -20, 0);
        return h;
    }

    @Says(at = AT, value = "If it is not an emergency, the neighbour must not be barred either:")
    @Break({"private int marginOf", "!emergency && mobile.isBarredAt", "mobile.isBarredAt"})
    @Break({"private int marginOf", "!emergency && mobile.isBarredAt", "emergency && mobile.isBarredAt"})
    static void barredNeighbours(Check c) {
        CellHandover h = returner(3, 0);
        c.holds("barred", h.isBarred(0, 0));
        c.is("no emergency", h.run(1), 0);
        c.is("though its level is greater", h.average(0, 0) - h.average(0, 1), 2);
        c.is("no candidate", h.candidate(0, 0), -1);
        c.is("no refusal either", h.refusals(1, 0), 0);
        CellHandover g = returner(3, 99);
        c.holds("barred", g.isBarred(0, 0));
        c.is("an emergency", g.run(1), 1);
    }

    @Says(at = AT, value = "it is barred if the clock is less than or equal to the tick up to which it is barred.")
    @Break({"boolean isBarredAt", "tick <= barredUntil[cell]", "tick < barredUntil[cell]"})
    @Break({"boolean isBarredAt", "tick <= barredUntil[cell]", "tick <= barredUntil[cell] + 1"})
    @Break({"private int marginOf", "isBarredAt(cell, network.clock)", "isBarredAt(cell, network.clock + 1)"})
    static void barredUpTo(Check c) {
        for (int time = 0; time <= 50; time++) {
            CellHandover h = returner(time, 0);
            // Ticks 1 to time are barred ones, and the next is not.
            c.is("ping-pong time " + time, h.run(time), 0);
            c.fails("not barred at " + (time + 1), h.isBarred(0, 0));
            c.is("handover", h.run(1), 1);
        }
    }

    @Says(at = AT, value = "The candidates are ranked by descending margin, then by ascending cell number.")
    @Break({"private void insert", "margins[at - 1] < margin", "margins[at - 1] <= margin"})
    @Break({"private void insert", "margins[at - 1] < margin", "margins[at - 1] > margin"})
    @Break({"private void insert", "margins[at - 1] < margin", "false"})
    @Break({"private void insert", "margins[at] = margins[at - 1]", "margins[at] = margins[at]"})
    @Break({"private void insert", "cells[at] = cells[at - 1]", "cells[at] = cells[at]"})
    static void ranked(Check c) {
        String network = Nets.cell(40, 1, 0, 0, 0) + Nets.cell(50, 1, 0, 0, 0) + Nets.cell(48, 1, 0, 0, 0)
                + Nets.cell(50, 1, 0, 0, 0) + Nets.cell(49, 1, 0, 0, 0) + "relation 1 0 0;relation 0 4 30;"
                + "relation 0 3 30;relation 0 2 30;relation 0 1 30;" + settings(1, 1);
        int[] greatest = {10, 8, 10, 9};
        // All ways to give the cells 1 to 4 margins from 0 to 3; those with 0 are no candidates.
        for (int way = 0; way < 256; way++) {
            CellHandover h = Check.loaded(network);
            Nets.callers(h, 2);
            h.run(1);
            int[] margins = new int[4];
            for (int i = 0; i < 4; i++) {
                margins[i] = way >> 2 * i & 3;
                h.setHysteresis(0, i + 1, greatest[i] - margins[i]);
            }
            int place = 0;
            for (int margin = 3; margin >= 1; margin--) {
                for (int i = 0; i < 4; i++) {
                    if (margins[i] == margin) {
                        c.is("place " + place + " of way " + way, h.candidate(1, place), i + 1);
                        place++;
                    }
                }
            }
            c.is("no more in way " + way, h.candidate(1, place), -1);
        }
    }

    @Says(at = AT, value = "The first candidate with a free channel is chosen, and the handover is performed.")
    @Break({"private void considerHandover", "network.hasFreeChannel(cell)", "i == 0 && network.hasFreeChannel(cell)"})
    @Break({"private void considerHandover", "network.hasFreeChannel(cell)", "true"})
    @Break({"private void considerHandover", "network.handOver(mobile, cell);\n                    return;",
            "network.handOver(mobile, cell);"})
    static void firstWithChannel(Check c) {
        CellHandover both = three("1 0 0 0", "1 0 0 0", "1 0 0 0", settings(1, 1));
        both.hangUp(0);
        both.hangUp(1);
        c.is("both are free", both.run(1), 1);
        c.is("the first", both.servingCell(2), 1);
        c.is("handovers", both.successes(0, 1) + both.successes(0, 2), 1);
        CellHandover second = three("1 0 0 0", "1 0 0 0", "1 0 0 0", settings(1, 1));
        second.hangUp(1);
        c.is("the second is free", second.run(1), 1);
        c.is("the second", second.servingCell(2), 2);
        CellHandover none = three("1 0 0 0", "1 0 0 0", "1 0 0 0", settings(1, 1));
        c.is("none is free", none.run(1), 0);
        c.is("stays", none.servingCell(2), 0);
    }

    @Says(at = AT, value = "Every candidate that ranks before it (all candidates, if none is chosen) counts one refusal of "
            + "its relation.")
    @Break({"private void considerHandover", "relationAt(mobile.serving, cell).refusals++",
            "relationAt(cell, mobile.serving).refusals++"})
    @Break({"private void considerHandover", "relationAt(mobile.serving, cell).refusals++",
            "relationAt(mobile.serving, cell).refusals += i == 0 ? 1 : 0"})
    @Break({"private void considerHandover", "if (network.hasFreeChannel(cell)) {",
            "network.relationAt(mobile.serving, cell).refusals++; if (network.hasFreeChannel(cell)) {"})
    static void refusals(Check c) {
        for (int low = 0; low <= 99; low += 99) {
            String zero = "1 0 0 " + low;
            CellHandover none = three(zero, "1 0 0 0", "1 0 0 0", settings(1, 1));
            none.run(1);
            c.is("none is chosen: the first", none.refusals(0, 1), 1);
            c.is("none is chosen: the second", none.refusals(0, 2), 1);
            none.run(1);
            c.is("again", none.refusals(0, 1), 2);
            c.is("again", none.refusals(0, 2), 2);
            CellHandover second = three(zero, "1 0 0 0", "1 0 0 0", settings(1, 1));
            second.hangUp(1);
            second.run(1);
            c.is("before the chosen one", second.refusals(0, 1), 1);
            c.is("the chosen one", second.refusals(0, 2), 0);
            CellHandover first = three(zero, "1 0 0 0", "1 0 0 0", settings(1, 1));
            first.hangUp(0);
            first.run(1);
            c.is("the chosen one", first.refusals(0, 1), 0);
            c.is("behind the chosen one", first.refusals(0, 2), 0);
            c.is("the other way", first.refusals(1, 0) + second.refusals(2, 0) + none.refusals(1, 0), 0);
        }
    }

    @Says(at = AT, value = "If none is chosen and it is an emergency, a request for a handover is made")
    @Break({"private void considerHandover", "!ranking.emergency", "false"})
    @Break({"private void considerHandover", "!ranking.emergency", "ranking.emergency"})
    static void requestInEmergency(Check c) {
        CellHandover calm = three("1 6 0 40", "1 6 0 0", "1 6 0 0", settings(1, 1));
        calm.run(1);
        c.is("no emergency", calm.requestCell(2), -1);
        CellHandover emergency = three("1 6 0 41", "1 6 0 0", "1 6 0 0", settings(1, 1));
        emergency.run(1);
        c.is("none is chosen", emergency.requestCell(2), 1);
        c.is("still talking there", emergency.servingCell(2), 0);
        c.is("no handover", emergency.total(0), 0);
        CellHandover chosen = three("1 6 0 41", "1 6 0 0", "1 6 0 0", settings(1, 1));
        chosen.hangUp(1);
        chosen.run(1);
        c.is("one is chosen", chosen.requestCell(2), -1);
        CellHandover alone = Nets.with(Nets.cell(40, 1, 6, 0, 99), settings(1, 1));
        Nets.caller(alone, 0, 0);
        alone.run(1);
        c.is("no candidate", alone.requestCell(0), -1);
    }

    @Says(at = AT, value = "at the first candidate whose queue has fewer requests than its capacity,")
    @Break({"private void considerHandover", "network.hasQueuePlace(cell)", "true"})
    @Break({"private void considerHandover", "network.hasQueuePlace(cell)", "i == 0 && network.hasQueuePlace(cell)"})
    @Break({"boolean hasQueuePlace", "requestsAt(cell) <", "requestsAt(cell) <="})
    @Break({"boolean hasQueuePlace", "requestsAt(cell) <", "requestsAt(cell) + 1 <"})
    @Break({"private void considerHandover", "network.clock);\n                    return;", "network.clock);"})
    static void firstWithPlace(Check c) {
        c.is("1 of 1, 1 of 1", requestOf("1", "1", 0), 1);
        c.is("none, 1 of 1", requestOf("0", "1", 0), 2);
        c.is("none, none", requestOf("0", "0", 0), -1);
        c.is("full, 1 of 1", requestOf("1", "1", 1), 2);
        c.is("full, none", requestOf("1", "0", 1), -1);
        c.is("the last of 2", requestOf("2", "1", 1), 1);
        c.is("the last of 6", requestOf("6", "0", 5), 1);
        c.is("6 of 6", requestOf("6", "0", 6), -1);
    }

    /** Where mobile 2 asks for a handover, if cells 1 and 2 have these capacities and so many wait at 1 for a set-up. */
    private static int requestOf(String one, String two, int waiting) {
        CellHandover h = three("1 6 0 99", "1 " + one + " 0 0", "1 " + two + " 0 0", settings(1, 1));
        Nets.callers(h, waiting);
        h.run(1);
        return h.queueLength(1) >= waiting ? h.requestCell(2) : -100;
    }

    @Says(at = AT, value = "with the clock as its tick.")
    @Break({"private void considerHandover", "makeRequest(cell, network.clock)", "makeRequest(cell, network.clock + 1)"})
    @Break({"private void considerHandover", "makeRequest(cell, network.clock)", "makeRequest(cell, network.clock - 1)"})
    static void tickOfRequest(Check c) {
        CellHandover h = three("1 6 0 99", "1 6 0 0", "1 6 0 0", Nets.settings(4, 3, 5, 3, 0, 3));
        Nets.tick(h, 3);
        c.is("made at the clock 2", h.requestCell(2), 1);
        Nets.tick(h, 2);
        c.is("not yet at 4", h.requestCell(2), 1);
        Nets.tick(h, 1);
        c.is("removed at 5", h.requestCell(2), -1);
    }

    @Says(at = AT, value = {"Performing a handover from cell a to cell b: the serving cell becomes b,",
        "and the relation from a to b counts one success."})
    @Break({"void handOver", "mobile.serving = to;", ""})
    @Break({"void handOver", "relationAt(from, to).successes++", "relationAt(to, from).successes++"})
    @Break({"void handOver", "count(HANDOVERS);", ""})
    static void performed(Check c) {
        CellHandover h = free("1 0 0 0", "1 0 0 0", LINKS + settings(1, 1));
        c.is("one handover", h.run(1), 1);
        c.is("servingCell", h.servingCell(1), 1);
        c.is("a channel of b", h.busyChannels(1), 1);
        c.is("none of a", h.busyChannels(0), 0);
        c.is("success", h.successes(0, 1), 1);
        c.is("not back", h.successes(1, 0), 0);
        c.is("no refusal", h.refusals(0, 1), 0);
        c.is("handovers", h.total(0), 1);
        c.is("goes on talking", h.remaining(1), 499);
    }

    @Says(at = AT, value = "a becomes barred for this mobile up to the clock plus the ping-pong time,")
    @Break({"void handOver", "clock + pingPongTime", "clock + pingPongTime - 1"})
    @Break({"void handOver", "clock + pingPongTime", "clock + pingPongTime + 1"})
    @Break({"void handOver", "mobile.bar(from,", "mobile.bar(to,"})
    static void barsA(Check c) {
        int[] times = {0, 1, 2, 49, 50};
        for (int time : times) {
            CellHandover h = free("1 0 0 0", "1 0 0 0", LINKS + Nets.settings(1, 1, time, 4, 5, 3));
            c.is("handover at 0", h.run(1), 1);
            c.is("another mobile, in a", h.call(0, 500), 0);
            for (int clock = 1; clock <= time; clock++) {
                c.holds("barred at " + clock, h.isBarred(1, 0));
                c.fails("b is not barred", h.isBarred(1, 1));
                c.fails("the other mobile", h.isBarred(0, 0));
                h.run(1);
            }
            c.fails("not barred at " + (time + 1), h.isBarred(1, 0));
        }
    }

    @Says(at = AT, value = "The handover is a ping-pong if b was barred for this mobile at this moment.")
    @Break({"void handOver", "mobile.isBarredAt(to, clock)", "mobile.isBarredAt(from, clock)"})
    @Break({"void handOver", "mobile.isBarredAt(to, clock)", "mobile.isBarredAt(to, clock + 1)"})
    @Break({"void handOver", "mobile.isBarredAt(to, clock)", "mobile.isBarredAt(to, clock - 1)"})
    @Break({"void handOver", "mobile.isBarredAt(to, clock)", "true"})
    static void pingPongs(Check c) {
        // Back at the clock 1, in an emergency.
        int[] due = {0, 1, 1};
        for (int time = 0; time < due.length; time++) {
            CellHandover h = returner(time, 99);
            c.is("the first way", h.total(1), 0);
            c.is("back", h.run(1), 1);
            c.is("ping-pong time " + time, h.total(1), due[time]);
        }
        // From the queue, what counts is the moment of the handover, not that of the request.
        for (int time = 2; time <= 3; time++) {
            CellHandover g = Nets.with("cell 0 0 60 10 1 1 0 0;cell 100 0 60 10 1 0 0 99;relation 0 1 0;relation 1 0 0;",
                    Nets.settings(1, 1, time, 30, 0, 3));
            g.addMobile(40, 0, 20, 0);
            g.call(0, 500);
            g.run(1);
            c.is("taken by another one", Nets.caller(g, 0, 0), 0);
            g.setVelocity(0, -20, 0);
            g.run(2);
            c.is("waits since the clock 1, when it was barred", g.requestCell(0), 0);
            g.hangUp(1);
            c.is("back at the clock 3", g.run(1), 1);
            c.is("ping-pong time " + time, g.total(1), time == 3 ? 1 : 0);
        }
    }
}
