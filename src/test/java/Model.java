import java.nio.charset.StandardCharsets;
import java.util.ArrayDeque;
import java.util.ArrayList;
import java.util.Comparator;
import java.util.Deque;
import java.util.HashMap;
import java.util.List;
import java.util.Map;
import java.util.NoSuchElementException;
import java.util.function.IntPredicate;
import java.util.function.IntUnaryOperator;

/**
 * The document once more, written in another way than the class (lists and maps, kept queues, a tree of tests), to be
 * compared with it on random runs.
 */
final class Model {
    private static final int[] DEFAULTS = {4, 2, 5, 4, 5, 3};

    private static final class Station {
        final int[] is;
        final List<Request> queue = new ArrayList<>();
        int congested;

        Station(int[] is) {
            this.is = is;
        }

        int level(int x, int y) {
            int level = is[2] - Math.floorDiv(is[3] * (Math.abs(x - is[0]) + Math.abs(y - is[1])), 100);
            return level < 0 ? 0 : level;
        }
    }

    private static final class Link {
        int hysteresis;
        int successes;
        int refusals;
    }

    private static final class Request {
        final int mobile;
        final boolean forHandover;
        final int tick;

        Request(int mobile, boolean forHandover, int tick) {
            this.mobile = mobile;
            this.forHandover = forHandover;
            this.tick = tick;
        }
    }

    private static final class Phone {
        int x;
        int y;
        int vx;
        int vy;
        int state;
        int serving = -1;
        int left;
        int bad;
        Map<Integer, Deque<Integer>> reports = new HashMap<>();
        Map<Integer, Integer> bars = new HashMap<>();
    }

    private static final class World {
        List<Station> stations = new ArrayList<>();
        Map<Integer, Link> links = new HashMap<>();
        List<Phone> phones = new ArrayList<>();
        int[] settings = DEFAULTS.clone();
        int clock;
        int[] totals = new int[8];

        World copy() {
            World to = new World();
            for (Station s : stations) {
                Station t = new Station(s.is);
                t.queue.addAll(s.queue);
                t.congested = s.congested;
                to.stations.add(t);
            }
            for (Map.Entry<Integer, Link> entry : links.entrySet()) {
                Link link = new Link();
                link.hysteresis = entry.getValue().hysteresis;
                link.successes = entry.getValue().successes;
                link.refusals = entry.getValue().refusals;
                to.links.put(entry.getKey(), link);
            }
            for (Phone p : phones) {
                Phone q = new Phone();
                q.x = p.x;
                q.y = p.y;
                q.vx = p.vx;
                q.vy = p.vy;
                q.state = p.state;
                q.serving = p.serving;
                q.left = p.left;
                q.bad = p.bad;
                for (Map.Entry<Integer, Deque<Integer>> entry : p.reports.entrySet()) {
                    q.reports.put(entry.getKey(), new ArrayDeque<>(entry.getValue()));
                }
                q.bars.putAll(p.bars);
                to.phones.add(q);
            }
            to.settings = settings.clone();
            to.clock = clock;
            to.totals = totals.clone();
            return to;
        }

        Link link(int from, int to) {
            return links.get(from * 100 + to);
        }

        int strongest(int x, int y) {
            return stations.isEmpty() ? -1 : java.util.stream.IntStream.range(0, stations.size()).boxed()
                    .min(Comparator.comparing((Integer c) -> -stations.get(c).level(x, y)).thenComparing(c -> c)).get();
        }

        int covering(int x, int y) {
            int c = strongest(x, y);
            return c >= 0 && stations.get(c).level(x, y) >= stations.get(c).is[6] ? c : -1;
        }

        long talkers(int c) {
            return phones.stream().filter(p -> p.state == 1 && p.serving == c).count();
        }

        boolean free(int c) {
            return talkers(c) < stations.get(c).is[4];
        }

        boolean room(int c) {
            return stations.get(c).queue.size() < stations.get(c).is[5];
        }

        void enqueue(int c, Request request) {
            stations.get(c).queue.add(request);
            stations.get(c).queue.sort(Comparator.comparing((Request r) -> r.forHandover ? 0 : 1)
                    .thenComparing(r -> r.tick).thenComparing(r -> r.mobile));
        }

        int requestCell(int m) {
            for (int c = 0; c < stations.size(); c++) {
                if (stations.get(c).queue.stream().anyMatch(r -> r.mobile == m)) {
                    return c;
                }
            }
            return -1;
        }

        void silence(int m) {
            Phone p = phones.get(m);
            p.state = 0;
            p.serving = -1;
            p.left = 0;
            stations.forEach(s -> s.queue.removeIf(r -> r.mobile == m));
        }

        void talk(int m, int c) {
            Phone p = phones.get(m);
            p.state = 1;
            p.serving = c;
            p.bad = 0;
            p.reports.clear();
            p.bars.clear();
        }

        int average(Phone p, int c) {
            Deque<Integer> list = p.reports.get(c);
            if (p.state != 1 || list == null || list.isEmpty()) {
                return -1;
            }
            return list.stream().mapToInt(i -> i).sum() / list.size();
        }

        int reportCount(Phone p, int c) {
            Deque<Integer> list = p.reports.get(c);
            return p.state != 1 || list == null ? 0 : list.size();
        }

        boolean barred(Phone p, int c) {
            return p.state == 1 && p.bars.containsKey(c) && clock <= p.bars.get(c);
        }

        int setUp(int m, int duration) {
            Phone p = phones.get(m);
            if (p.state != 0) {
                return -2;
            }
            int c = covering(p.x, p.y);
            if (c < 0) {
                return -4;
            }
            if (free(c)) {
                talk(m, c);
                p.left = duration;
                return c;
            }
            int chosen = -1;
            for (int n = stations.size() - 1; n >= 0; n--) {
                int level = stations.get(n).level(p.x, p.y);
                if (link(c, n) != null && free(n) && level >= stations.get(n).is[6]
                        && (chosen < 0 || level >= stations.get(chosen).level(p.x, p.y))) {
                    chosen = n;
                }
            }
            if (chosen >= 0) {
                totals[5]++;
                talk(m, chosen);
                p.left = duration;
                return chosen;
            }
            if (room(c)) {
                p.state = 2;
                p.left = duration;
                enqueue(c, new Request(m, false, clock));
                return -3;
            }
            totals[4]++;
            return -5;
        }

        boolean emergency(Phone p) {
            return average(p, p.serving) < stations.get(p.serving).is[7];
        }

        int margin(Phone p, int c) {
            int margin = average(p, c) - average(p, p.serving);
            return emergency(p) ? margin : margin - link(p.serving, c).hysteresis;
        }

        List<Integer> candidates(Phone p) {
            List<Integer> found = new ArrayList<>();
            if (p.state != 1 || average(p, p.serving) < 0) {
                return found;
            }
            for (int c = 0; c < stations.size(); c++) {
                if (link(p.serving, c) != null && reportCount(p, c) >= settings[1]
                        && average(p, c) >= stations.get(c).is[6] && margin(p, c) > 0
                        && (emergency(p) || !barred(p, c))) {
                    found.add(c);
                }
            }
            found.sort(Comparator.comparing((Integer c) -> -margin(p, c)).thenComparing(c -> c));
            return found;
        }

        void handOver(Phone p, int to) {
            Link link = link(p.serving, to);
            link.successes++;
            totals[0]++;
            totals[1] += barred(p, to) ? 1 : 0;
            p.bars.put(p.serving, clock + settings[2]);
            p.serving = to;
            p.bad = 0;
        }

        void consider(int m) {
            Phone p = phones.get(m);
            List<Integer> list = candidates(p);
            int chosen = -1;
            for (int i = 0; i < list.size() && chosen < 0; i++) {
                chosen = free(list.get(i)) ? i : -1;
            }
            for (int i = 0; i < (chosen < 0 ? list.size() : chosen); i++) {
                link(p.serving, list.get(i)).refusals++;
            }
            if (chosen >= 0) {
                handOver(p, list.get(chosen));
            } else if (!list.isEmpty() && emergency(p)) {
                for (int c : list) {
                    if (room(c)) {
                        enqueue(c, new Request(m, true, clock));
                        break;
                    }
                }
            }
        }

        void tick() {
            for (Phone p : phones) {
                p.x = clamp(p.x + p.vx);
                p.y = clamp(p.y + p.vy);
            }
            for (Phone p : phones) {
                if (p.state == 1) {
                    Map<Integer, Deque<Integer>> before = p.reports;
                    p.reports = new HashMap<>();
                    for (int c = 0; c < stations.size(); c++) {
                        if (c == p.serving || link(p.serving, c) != null) {
                            Deque<Integer> list = before.getOrDefault(c, new ArrayDeque<>());
                            list.addLast(stations.get(c).level(p.x, p.y));
                            if (list.size() > settings[0]) {
                                list.removeFirst();
                            }
                            p.reports.put(c, list);
                        }
                    }
                }
            }
            for (int m = 0; m < phones.size(); m++) {
                if (phones.get(m).state == 1 && --phones.get(m).left == 0) {
                    totals[2]++;
                    silence(m);
                }
            }
            for (int m = 0; m < phones.size(); m++) {
                Phone p = phones.get(m);
                if (p.state == 1) {
                    p.bad = average(p, p.serving) < settings[4] ? p.bad + 1 : 0;
                    if (p.bad == settings[5]) {
                        totals[3]++;
                        silence(m);
                    }
                }
            }
            for (int c = 0; c < stations.size(); c++) {
                List<Request> queue = stations.get(c).queue;
                while (free(c) && !queue.isEmpty()) {
                    Request request = queue.remove(0);
                    totals[6]++;
                    if (request.forHandover) {
                        handOver(phones.get(request.mobile), c);
                    } else {
                        talk(request.mobile, c);
                    }
                }
            }
            for (int m = 0; m < phones.size(); m++) {
                if (phones.get(m).state == 1 && requestCell(m) < 0) {
                    consider(m);
                }
            }
            for (int c = 0; c < stations.size(); c++) {
                stations.get(c).congested += free(c) ? 0 : 1;
            }
            for (Station s : stations) {
                for (Request request : new ArrayList<>(s.queue)) {
                    if (request.tick + settings[3] <= clock) {
                        totals[7]++;
                        s.queue.remove(request);
                        if (!request.forHandover) {
                            totals[4]++;
                            silence(request.mobile);
                        }
                    }
                }
            }
            clock++;
        }

        static int clamp(int i) {
            return i < 0 ? 0 : i > 999 ? 999 : i;
        }
    }

    private static final class BadText extends RuntimeException {
        private static final long serialVersionUID = 1;
        final int code;
        final int at;

        BadText(int code, int at) {
            this.code = code;
            this.at = at;
        }
    }

    private static final class Words {
        final List<String> tokens = new ArrayList<>();
        final List<Integer> places = new ArrayList<>();
        int here;

        Words(String text) {
            java.util.regex.Matcher m = java.util.regex.Pattern.compile("[a-z]+|[0-9]+|[^ \n]", java.util.regex.Pattern.DOTALL)
                    .matcher(text);
            while (m.find()) {
                tokens.add(m.group());
                places.add(m.start());
            }
            tokens.add("");
            places.add(text.length());
        }

        String see() {
            return tokens.get(here);
        }

        BadText bad(int code) {
            return new BadText(code, places.get(here));
        }

        void need(String token) {
            if (!see().equals(token)) {
                throw bad(1);
            }
            here++;
        }

        int number(int low, int high) {
            if (!see().matches("[0-9]+")) {
                throw bad(1);
            }
            java.math.BigInteger value = new java.math.BigInteger(see());
            if (value.compareTo(java.math.BigInteger.valueOf(low)) < 0
                    || value.compareTo(java.math.BigInteger.valueOf(high)) > 0) {
                throw bad(2);
            }
            here++;
            return value.intValue();
        }
    }

    private World world = new World();
    private World snapshot;
    private final Deque<World> past = new ArrayDeque<>();
    private final java.io.ByteArrayOutputStream buffer = new java.io.ByteArrayOutputStream();
    private int errorAt = -1;

    private void remember() {
        past.addLast(world.copy());
        if (past.size() > 12) {
            past.removeFirst();
        }
    }

    private static void legal(boolean ok) {
        if (!ok) {
            throw new IllegalArgumentException();
        }
    }

    private static void there(boolean ok) {
        if (!ok) {
            throw new NoSuchElementException();
        }
    }

    private Station station(int c) {
        there(c >= 0 && c < world.stations.size());
        return world.stations.get(c);
    }

    private Phone phone(int m) {
        there(m >= 0 && m < world.phones.size());
        return world.phones.get(m);
    }

    private static boolean in(int value, int low, int high) {
        return value >= low && value <= high;
    }

    int feed(int a, int b, int c, int d, int e) {
        if (buffer.size() + 20 > 700) {
            return -1;
        }
        for (int word : new int[] {a, b, c, d, e}) {
            buffer.writeBytes(java.nio.ByteBuffer.allocate(4).putInt(word).array());
        }
        return buffer.size();
    }

    private String takeText(int length, int most) {
        legal(length >= 0 && length <= buffer.size() && length <= most);
        String text = new String(buffer.toByteArray(), 0, length, StandardCharsets.ISO_8859_1);
        buffer.reset();
        errorAt = -1;
        return text;
    }

    int load(int length) {
        String text = takeText(length, 700);
        try {
            world = readNetwork(new Words(text));
        } catch (BadText bad) {
            errorAt = bad.at;
            return -10 - bad.code;
        }
        past.clear();
        return world.stations.size();
    }

    private static World readNetwork(Words words) {
        int[][] ranges = {{0, 999}, {0, 999}, {1, 99}, {1, 50}, {1, 8}, {0, 6}, {0, 99}, {0, 99}};
        World to = new World();
        while (!words.see().isEmpty()) {
            switch (words.see()) {
                case "cell":
                    if (to.stations.size() == 8) {
                        throw words.bad(3);
                    }
                    words.here++;
                    int[] is = new int[8];
                    for (int i = 0; i < 8; i++) {
                        is[i] = words.number(ranges[i][0], ranges[i][1]);
                    }
                    to.stations.add(new Station(is));
                    break;
                case "relation":
                    if (to.links.size() == 24) {
                        throw words.bad(3);
                    }
                    words.here++;
                    int a = words.number(0, to.stations.size() - 1);
                    int b = words.number(0, to.stations.size() - 1);
                    if (a == b || to.link(a, b) != null) {
                        words.here--;
                        throw words.bad(a == b ? 2 : 4);
                    }
                    Link link = new Link();
                    link.hysteresis = words.number(0, 30);
                    to.links.put(a * 100 + b, link);
                    break;
                case "settings":
                    words.here++;
                    int window = words.number(1, 8);
                    to.settings = new int[] {window, words.number(1, window), words.number(0, 50), words.number(1, 30),
                        words.number(0, 99), words.number(1, 20)};
                    break;
                default:
                    throw words.bad(1);
            }
            words.need(";");
        }
        return to;
    }

    int query(int length) {
        Words words = new Words(takeText(length, 200));
        boolean many;
        IntPredicate test;
        try {
            many = words.see().equals("many");
            if (!many && !words.see().equals("first")) {
                throw words.bad(1);
            }
            words.here++;
            test = readTest(words, 0);
            if (!words.see().isEmpty()) {
                throw words.bad(1);
            }
        } catch (BadText bad) {
            errorAt = bad.at;
            return -1000000000 - bad.code;
        }
        int[] found = java.util.stream.IntStream.range(0, world.phones.size()).filter(test).toArray();
        return many ? found.length : found.length == 0 ? -1 : found[0];
    }

    private IntPredicate readTest(Words words, int open) {
        IntPredicate test = readConjunction(words, open);
        while (words.see().equals("or")) {
            words.here++;
            test = test.or(readConjunction(words, open));
        }
        return test;
    }

    private IntPredicate readConjunction(Words words, int open) {
        IntPredicate test = readFactor(words, open);
        while (words.see().equals("and")) {
            words.here++;
            test = test.and(readFactor(words, open));
        }
        return test;
    }

    private IntPredicate readFactor(Words words, int open) {
        if (words.see().equals("not") || words.see().equals("(")) {
            if (open == 6) {
                throw words.bad(3);
            }
            words.here++;
            if (words.tokens.get(words.here - 1).equals("not")) {
                return readFactor(words, open + 1).negate();
            }
            IntPredicate test = readTest(words, open + 1);
            words.need(")");
            return test;
        }
        IntUnaryOperator left = readValue(words);
        String sign = words.see();
        if (!sign.equals("<") && !sign.equals("=") && !sign.equals(">")) {
            throw words.bad(1);
        }
        words.here++;
        IntUnaryOperator right = readValue(words);
        return m -> {
            int compared = Integer.compare(left.applyAsInt(m), right.applyAsInt(m));
            return sign.equals("<") ? compared < 0 : sign.equals("=") ? compared == 0 : compared > 0;
        };
    }

    private IntUnaryOperator readValue(Words words) {
        Map<String, IntUnaryOperator> properties = new HashMap<>();
        properties.put("mobile", m -> m);
        properties.put("x", m -> world.phones.get(m).x);
        properties.put("y", m -> world.phones.get(m).y);
        properties.put("state", m -> world.phones.get(m).state);
        properties.put("cell", m -> world.phones.get(m).state == 1 ? world.phones.get(m).serving : 9);
        properties.put("left", m -> world.phones.get(m).state == 1 ? world.phones.get(m).left : 0);
        properties.put("reports", m -> world.reportCount(world.phones.get(m), world.phones.get(m).serving));
        properties.put("waits", m -> world.requestCell(m) >= 0 ? 1 : 0);
        IntUnaryOperator property = properties.get(words.see());
        if (property != null) {
            words.here++;
            return property;
        }
        int number = words.number(0, 9999);
        return m -> number;
    }

    int errorPosition() {
        return errorAt;
    }

    int cellCount() {
        return world.stations.size();
    }

    int relationCount() {
        return world.links.size();
    }

    int mobileCount() {
        return world.phones.size();
    }

    int clock() {
        return world.clock;
    }

    int hysteresis(int from, int to) {
        station(from);
        station(to);
        return world.link(from, to) == null ? -1 : world.link(from, to).hysteresis;
    }

    int level(int cell, int x, int y) {
        Station s = station(cell);
        legal(in(x, 0, 999) && in(y, 0, 999));
        return s.level(x, y);
    }

    int strongestCell(int x, int y) {
        legal(in(x, 0, 999) && in(y, 0, 999));
        return world.covering(x, y);
    }

    int coverage(int cell) {
        station(cell);
        int points = 0;
        for (int x = 0; x < 1000; x++) {
            for (int y = 0; y < 1000; y++) {
                points += x % 37 == 0 && y % 37 == 0 && world.covering(x, y) == cell ? 1 : 0;
            }
        }
        return points;
    }

    int missingRelation(int margin) {
        legal(in(margin, 0, 30));
        for (int a = 0; a < world.stations.size(); a++) {
            for (int b = 0; b < world.stations.size(); b++) {
                int points = 0;
                for (int i = 0; i < 784 && a != b && world.link(a, b) == null; i++) {
                    int x = i / 28 * 37;
                    int y = i % 28 * 37;
                    int level = world.stations.get(b).level(x, y);
                    points += level > 0 && world.strongest(x, y) == a && world.stations.get(a).level(x, y) <= level + margin
                            ? 1 : 0;
                }
                if (points >= 3) {
                    return 8 * a + b;
                }
            }
        }
        return -1;
    }

    int addMobile(int x, int y, int vx, int vy) {
        legal(in(x, 0, 999) && in(y, 0, 999) && in(vx, -99, 99) && in(vy, -99, 99));
        if (world.phones.size() == 12) {
            return -2;
        }
        remember();
        Phone p = new Phone();
        p.x = x;
        p.y = y;
        p.vx = vx;
        p.vy = vy;
        world.phones.add(p);
        return world.phones.size() - 1;
    }

    int setVelocity(int mobile, int vx, int vy) {
        Phone p = phone(mobile);
        legal(in(vx, -99, 99) && in(vy, -99, 99));
        remember();
        p.vx = vx;
        p.vy = vy;
        return p.state;
    }

    int call(int mobile, int duration) {
        phone(mobile);
        legal(in(duration, 1, 500));
        World before = world.copy();
        int answer = world.setUp(mobile, duration);
        if (answer != -2 && answer != -4) {
            World after = world;
            world = before;
            remember();
            world = after;
        }
        return answer;
    }

    int hangUp(int mobile) {
        Phone p = phone(mobile);
        if (p.state == 0) {
            return -2;
        }
        remember();
        int before = p.state;
        world.silence(mobile);
        return before;
    }

    int setHysteresis(int from, int to, int value) {
        station(from);
        station(to);
        legal(in(value, 0, 30));
        Link link = world.link(from, to);
        if (link == null) {
            return -2;
        }
        remember();
        int before = link.hysteresis;
        link.hysteresis = value;
        return before;
    }

    int run(int ticks) {
        legal(in(ticks, 0, 60) && world.clock + ticks <= 100000);
        remember();
        int before = world.totals[0];
        for (int i = 0; i < ticks; i++) {
            world.tick();
        }
        return world.totals[0] - before;
    }

    int x(int mobile) {
        return phone(mobile).x;
    }

    int y(int mobile) {
        return phone(mobile).y;
    }

    int state(int mobile) {
        return phone(mobile).state;
    }

    int servingCell(int mobile) {
        return phone(mobile).state == 1 ? phone(mobile).serving : -1;
    }

    int remaining(int mobile) {
        return phone(mobile).state == 0 ? 0 : phone(mobile).left;
    }

    int requestCell(int mobile) {
        phone(mobile);
        return world.requestCell(mobile);
    }

    int average(int mobile, int cell) {
        phone(mobile);
        station(cell);
        return world.average(phone(mobile), cell);
    }

    int reportCount(int mobile, int cell) {
        phone(mobile);
        station(cell);
        return world.reportCount(phone(mobile), cell);
    }

    boolean isBarred(int mobile, int cell) {
        phone(mobile);
        station(cell);
        return world.barred(phone(mobile), cell);
    }

    int candidate(int mobile, int index) {
        Phone p = phone(mobile);
        there(index >= 0);
        List<Integer> list = world.candidates(p);
        return index < list.size() ? list.get(index) : -1;
    }

    int busyChannels(int cell) {
        station(cell);
        return (int) world.talkers(cell);
    }

    int queueLength(int cell) {
        return station(cell).queue.size();
    }

    int queued(int cell, int index) {
        List<Request> queue = station(cell).queue;
        there(index >= 0);
        return index < queue.size() ? queue.get(index).mobile : -1;
    }

    int successes(int from, int to) {
        station(from);
        station(to);
        return world.link(from, to) == null ? 0 : world.link(from, to).successes;
    }

    int refusals(int from, int to) {
        station(from);
        station(to);
        return world.link(from, to) == null ? 0 : world.link(from, to).refusals;
    }

    int total(int what) {
        return what >= 0 && what < 8 ? world.totals[what] : -1;
    }

    int congestedTicks(int cell) {
        return station(cell).congested;
    }

    int forecastCell(int mobile, int ticks) {
        phone(mobile);
        legal(in(ticks, 0, 60) && world.clock + ticks <= 100000);
        World copy = world.copy();
        for (int i = 0; i < ticks; i++) {
            copy.tick();
        }
        return copy.phones.get(mobile).state == 1 ? copy.phones.get(mobile).serving : -1;
    }

    int bestHysteresis(int from, int to, int ticks) {
        station(from);
        station(to);
        legal(in(ticks, 0, 30) && world.clock + ticks <= 100000);
        if (world.link(from, to) == null) {
            return -2;
        }
        int best = -1;
        long bestCost = Long.MAX_VALUE;
        for (int value = 0; value <= 30; value++) {
            World copy = world.copy();
            copy.link(from, to).hysteresis = value;
            for (int i = 0; i < ticks; i++) {
                copy.tick();
            }
            long cost = 1000000L * (copy.totals[3] - world.totals[3]) + copy.totals[0] - world.totals[0];
            if (cost < bestCost) {
                best = value;
                bestCost = cost;
            }
        }
        return best;
    }

    int undoCount() {
        return past.size();
    }

    int undo() {
        if (past.isEmpty()) {
            return -1;
        }
        world = past.removeLast();
        return past.size();
    }

    void saveSnapshot() {
        snapshot = world.copy();
    }

    boolean restoreSnapshot() {
        if (snapshot == null) {
            return false;
        }
        world = snapshot.copy();
        past.clear();
        return true;
    }
}
