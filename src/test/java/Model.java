import java.util.ArrayList;
import java.util.Arrays;
import java.util.HashSet;
import java.util.LinkedHashMap;
import java.util.LinkedHashSet;
import java.util.List;
import java.util.Map;
import java.util.Set;

/** The document told again in the plainest way, without a thought of speed, to compare RelayMouse with. */
final class Model {
    static final int NONE = -1;
    static final int NEVER = -2;

    // ---- texts

    record Token(String text, int place) {
        boolean isWord() {
            return !text.isEmpty() && text.chars().allMatch(c -> c >= 'a' && c <= 'z');
        }

        boolean isNumber() {
            return !text.isEmpty() && text.chars().allMatch(c -> c >= '0' && c <= '9');
        }
    }

    static final class Fault extends RuntimeException {
        private static final long serialVersionUID = 1L;
        final int kind;
        final int place;

        Fault(int kind, int place) {
            super(null, null, false, false);
            this.kind = kind;
            this.place = place;
        }
    }

    static List<Token> tokens(String text) {
        List<Token> found = new ArrayList<>();
        int at = 0;
        while (at < text.length()) {
            char c = text.charAt(at);
            int from = at;
            at++;
            if (c == ' ' || c == '\n') {
                continue;
            }
            boolean word = c >= 'a' && c <= 'z';
            boolean number = c >= '0' && c <= '9';
            while (at < text.length() && (word && text.charAt(at) >= 'a' && text.charAt(at) <= 'z'
                    || number && text.charAt(at) >= '0' && text.charAt(at) <= '9')) {
                at++;
            }
            found.add(new Token(text.substring(from, at), from));
        }
        found.add(new Token("", text.length()));
        return found;
    }

    record Test(boolean not, String word, int number) {
    }

    record Act(String word, int number) {
    }

    record Line(List<Test> tests, List<Act> acts) {
    }

    static final Set<String> TESTS = Set.of("bump", "bell", "way", "mode", "count", "yes");
    static final Set<String> ACTS = Set.of("right", "left", "back", "face", "keep", "go", "set", "drop", "mode",
            "add", "zero", "wipe");
    static final Map<String, Integer> MOST = Map.of("mode", 9, "count", 99, "yes", 2, "set", 2, "drop", 2);

    static int number(Token token, int most) {
        if (!token.isNumber()) {
            throw new Fault(1, token.place);
        }
        if (new java.math.BigInteger(token.text).compareTo(java.math.BigInteger.valueOf(most)) > 0) {
            throw new Fault(2, token.place);
        }
        return new java.math.BigInteger(token.text).intValue();
    }

    static List<Line> readRules(String text) {
        List<Token> t = tokens(text);
        List<Line> lines = new ArrayList<>();
        int i = 0;
        while (!t.get(i).text.isEmpty()) {
            String start = t.get(i).text;
            if (!start.equals("if") && !start.equals("do")) {
                throw new Fault(1, t.get(i).place);
            }
            if (lines.size() == 30) {
                throw new Fault(2, t.get(i).place);
            }
            List<Test> tests = new ArrayList<>();
            if (start.equals("if")) {
                i++;
                do {
                    Token first = t.get(i);
                    if (!first.text.equals("not") && !TESTS.contains(first.text)) {
                        throw new Fault(1, first.place);
                    }
                    if (tests.size() == 12) {
                        throw new Fault(2, first.place);
                    }
                    boolean not = first.text.equals("not");
                    if (not) {
                        i++;
                    }
                    Token word = t.get(i);
                    if (!TESTS.contains(word.text)) {
                        throw new Fault(1, word.place);
                    }
                    i++;
                    int number = 0;
                    if (MOST.containsKey(word.text)) {
                        number = number(t.get(i), MOST.get(word.text));
                        i++;
                    }
                    for (Test told : tests) {
                        if (told.word.equals(word.text) && told.number == number) {
                            throw new Fault(3, word.place);
                        }
                    }
                    tests.add(new Test(not, word.text, number));
                } while (!t.get(i).text.equals("do"));
            }
            i++;
            List<Act> acts = new ArrayList<>();
            do {
                Token word = t.get(i);
                if (!ACTS.contains(word.text)) {
                    throw new Fault(1, word.place);
                }
                if (acts.size() == 12) {
                    throw new Fault(2, word.place);
                }
                i++;
                int number = 0;
                if (MOST.containsKey(word.text)) {
                    number = number(t.get(i), MOST.get(word.text));
                    i++;
                }
                acts.add(new Act(word.text, number));
            } while (!t.get(i).text.equals(";"));
            i++;
            lines.add(new Line(tests, acts));
        }
        return lines;
    }

    interface E {
        boolean holds(Map<String, Boolean> signals);
    }

    static final Set<String> NET_WORDS = Set.of("relay", "go", "left", "right", "keep", "or", "and", "not", "bump",
            "bell", "one", "two");

    static final class NetText {
        final List<Token> t;
        int i;
        int knots;
        int brackets;
        final Map<String, E> relays = new LinkedHashMap<>();
        final Map<String, E> outputs = new LinkedHashMap<>();
        final List<Token> asked = new ArrayList<>();

        NetText(String text) {
            t = tokens(text);
            while (!t.get(i).text.isEmpty()) {
                line();
            }
            for (Token name : asked) {
                if (!relays.containsKey(name.text)) {
                    throw new Fault(4, name.place);
                }
            }
        }

        Token now() {
            return t.get(i);
        }

        boolean name(Token token) {
            return token.isWord() && token.text.length() <= 6 && !NET_WORDS.contains(token.text);
        }

        void line() {
            Token first = now();
            boolean relay = first.text.equals("relay");
            if (!relay && !Set.of("go", "left", "right", "keep").contains(first.text)) {
                throw new Fault(1, first.place);
            }
            if (relay && relays.size() == 20) {
                throw new Fault(2, first.place);
            }
            if (relay) {
                i++;
                if (!name(now())) {
                    throw new Fault(1, now().place);
                }
            }
            String target = now().text;
            Map<String, E> into = relay ? relays : outputs;
            if (into.containsKey(target)) {
                throw new Fault(3, now().place);
            }
            into.put(target, null);
            i++;
            skip("=");
            into.put(target, e());
            skip(";");
        }

        void skip(String sign) {
            if (!now().text.equals(sign)) {
                throw new Fault(1, now().place);
            }
            i++;
        }

        void knot() {
            if (knots == 64) {
                throw new Fault(2, now().place);
            }
            knots++;
            i++;
        }

        E e() {
            E left = a();
            while (now().text.equals("or")) {
                knot();
                E ahead = left;
                E behind = a();
                left = s -> ahead.holds(s) | behind.holds(s);
            }
            return left;
        }

        E a() {
            E left = b();
            while (now().text.equals("and")) {
                knot();
                E ahead = left;
                E behind = b();
                left = s -> ahead.holds(s) & behind.holds(s);
            }
            return left;
        }

        E b() {
            Token token = now();
            if (token.text.equals("not")) {
                knot();
                E of = b();
                return s -> !of.holds(s);
            }
            if (token.text.equals("(")) {
                if (brackets == 8) {
                    throw new Fault(2, token.place);
                }
                brackets++;
                i++;
                E inside = e();
                skip(")");
                return inside;
            }
            if (Set.of("bump", "bell", "one", "two").contains(token.text)) {
                knot();
                return s -> s.get(" " + token.text);
            }
            if (!name(token)) {
                throw new Fault(1, token.place);
            }
            knot();
            asked.add(token);
            return s -> s.get(token.text);
        }
    }

    // ---- the floor and the mouse

    static final class Ground {
        int w = 5;
        int h = 5;
        int bell = 24;
        // Pairs of squares "a b", a below b, between which a wall stands.
        Set<String> walls = new HashSet<>();

        Ground copy() {
            Ground g = new Ground();
            g.w = w;
            g.h = h;
            g.bell = bell;
            g.walls = new HashSet<>(walls);
            return g;
        }

        int next(int square, int side) {
            int x = square % w + (side == 1 ? 1 : side == 3 ? -1 : 0);
            int y = square / w + (side == 2 ? 1 : side == 0 ? -1 : 0);
            return x < 0 || y < 0 || x >= w || y >= h ? NONE : y * w + x;
        }

        String between(int a, int b) {
            return Math.min(a, b) + " " + Math.max(a, b);
        }

        boolean wall(int square, int side) {
            int to = next(square, side);
            return to == NONE || walls.contains(between(square, to));
        }

        List<String> inner() {
            List<String> all = new ArrayList<>();
            for (int side = 1; side <= 2; side++) {
                for (int s = 0; s < w * h; s++) {
                    if (next(s, side) != NONE) {
                        all.add(between(s, next(s, side)));
                    }
                }
            }
            return all;
        }

        int far(int square) {
            List<Integer> row = new ArrayList<>(List.of(square));
            Map<Integer, Integer> steps = new LinkedHashMap<>();
            steps.put(square, 0);
            for (int i = 0; i < row.size(); i++) {
                for (int side = 0; side < 4; side++) {
                    int to = next(row.get(i), side);
                    if (!wall(row.get(i), side) && !steps.containsKey(to)) {
                        steps.put(to, steps.get(row.get(i)) + 1);
                        row.add(to);
                    }
                }
            }
            return steps.getOrDefault(bell, NONE);
        }
    }

    static final class Being {
        int square;
        int heading;
        int mode;
        int count;
        int[] way = new int[36];
        boolean[][] yes = new boolean[36][3];
        int went;
        int line = NONE;
        int barred = NONE;

        Being copy() {
            Being b = new Being();
            b.square = square;
            b.heading = heading;
            b.mode = mode;
            b.count = count;
            b.way = way.clone();
            for (int i = 0; i < 36; i++) {
                b.yes[i] = yes[i].clone();
            }
            return b;
        }

        void clear() {
            way = new int[36];
            yes = new boolean[36][3];
        }

        void down(int where) {
            square = where;
            heading = 0;
            mode = 0;
            count = 0;
        }

        boolean holds(Test test, Ground g) {
            boolean is = switch (test.word) {
                case "bump" -> g.wall(square, heading);
                case "bell" -> square == g.bell;
                case "way" -> heading == way[square];
                case "mode" -> mode == test.number;
                case "count" -> count >= test.number;
                default -> yes[square][test.number];
            };
            return is != test.not;
        }

        void go(Ground g) {
            if (!g.wall(square, heading)) {
                square = g.next(square, heading);
                went++;
            }
        }

        void act(Act act, Ground g) {
            switch (act.word) {
                case "right" -> heading = (heading + 1) % 4;
                case "left" -> heading = (heading + 3) % 4;
                case "back" -> heading = (heading + 2) % 4;
                case "face" -> heading = way[square];
                case "keep" -> way[square] = heading;
                case "go" -> go(g);
                case "set" -> yes[square][act.number] = act.number != barred;
                case "drop" -> yes[square][act.number] = false;
                case "mode" -> mode = act.number;
                case "add" -> count = count == 99 ? 99 : count + 1;
                case "zero" -> count = 0;
                default -> clear();
            }
        }

        void tick(List<Line> rules, Ground g) {
            line = NONE;
            for (int i = 0; i < rules.size() && line == NONE; i++) {
                boolean all = true;
                for (Test test : rules.get(i).tests) {
                    all &= holds(test, g);
                }
                if (all) {
                    line = i;
                    for (Act act : rules.get(i).acts) {
                        act(act, g);
                    }
                }
            }
        }

        int run(List<Line> rules, Ground g, int most) {
            int ticks = 0;
            while (square != g.bell && ticks < most) {
                tick(rules, g);
                ticks++;
            }
            return square == g.bell ? ticks : NEVER;
        }

        boolean[] outputs(Map<String, E> outputs, Map<String, Boolean> signals) {
            String[] names = {"keep", "left", "right", "go"};
            boolean[] on = new boolean[4];
            for (int i = 0; i < 4; i++) {
                on[i] = outputs.containsKey(names[i]) && outputs.get(names[i]).holds(signals);
            }
            return on;
        }
    }

    static final class State {
        Map<String, Boolean> held = new LinkedHashMap<>();
        Map<String, Boolean> stuck = new LinkedHashMap<>();

        void none(Set<String> names) {
            held.clear();
            for (String name : names) {
                held.put(name, stuck.getOrDefault(name, false));
            }
        }
    }

    static Map<String, Boolean> inputs(Being b, Ground g) {
        Map<String, Boolean> in = new LinkedHashMap<>();
        in.put(" bump", g.wall(b.square, b.heading));
        in.put(" bell", b.square == g.bell);
        in.put(" one", b.way[b.square] == 1 || b.way[b.square] == 3);
        in.put(" two", b.way[b.square] == 2 || b.way[b.square] == 3);
        return in;
    }

    void netTick(Being b, Ground g, State state) {
        Map<String, Boolean> in = inputs(b, g);
        Map<String, Boolean> were = new LinkedHashMap<>(state.held);
        were.putAll(in);
        for (String name : relayNames) {
            state.held.put(name, state.stuck.getOrDefault(name, relayEs.get(name).holds(were)));
        }
        Map<String, Boolean> are = new LinkedHashMap<>(state.held);
        are.putAll(in);
        boolean[] on = b.outputs(outputEs, are);
        if (on[0]) {
            b.way[b.square] = b.heading;
        }
        if (on[1]) {
            b.heading = (b.heading + 3) % 4;
        }
        if (on[2]) {
            b.heading = (b.heading + 1) % 4;
        }
        if (on[3]) {
            b.go(g);
        }
        if (state == relays) {
            race = findRace(were, state.held);
        }
    }

    int findRace(Map<String, Boolean> were, Map<String, Boolean> are) {
        List<String> names = new ArrayList<>(relayNames);
        for (int i = 0; i < names.size(); i++) {
            for (int j = i + 1; j < names.size(); j++) {
                String a = names.get(i);
                String b = names.get(j);
                if (were.get(a).equals(are.get(a)) || were.get(b).equals(are.get(b))) {
                    continue;
                }
                Map<String, Boolean> bAhead = new LinkedHashMap<>(were);
                bAhead.put(b, are.get(b));
                Map<String, Boolean> aAhead = new LinkedHashMap<>(were);
                aAhead.put(a, are.get(a));
                boolean aStays = relayEs.get(a).holds(bAhead) == were.get(a);
                boolean bStays = relayEs.get(b).holds(aAhead) == were.get(b);
                if (aStays || bStays) {
                    return Math.min(aStays ? 32 * i + j : 9999, bStays ? 32 * j + i : 9999);
                }
            }
        }
        return NONE;
    }

    // ---- the object

    record Image(Being mouse, Ground ground, Map<String, Boolean> held) {
    }

    String tape = "";
    int fault;
    int faultPlace = NONE;
    List<Line> rules = new ArrayList<>();
    Set<String> relayNames = new LinkedHashSet<>();
    Map<String, E> relayEs = new LinkedHashMap<>();
    Map<String, E> outputEs = new LinkedHashMap<>();
    int knots;
    Ground ground = new Ground();
    Being mouse = new Being();
    State relays = new State();
    int race = NONE;
    Image[] images = new Image[4];

    int feed(int a, int b, int c, int d, int e) {
        if (tape.length() + 20 > 500) {
            return NONE;
        }
        StringBuilder more = new StringBuilder(tape);
        for (int number : new int[] {a, b, c, d, e}) {
            for (int shift = 24; shift >= 0; shift -= 8) {
                more.append((char) (number >> shift & 255));
            }
        }
        tape = more.toString();
        return tape.length();
    }

    int rules(int n) {
        if (n < 0 || n > tape.length()) {
            return -2;
        }
        String text = tape.substring(0, n);
        tape = "";
        fault = 0;
        faultPlace = NONE;
        try {
            rules = readRules(text);
        } catch (Fault f) {
            fault = f.kind;
            faultPlace = f.place;
            return NONE;
        }
        mouse.line = NONE;
        return rules.size();
    }

    int net(int n) {
        if (n < 0 || n > tape.length()) {
            return -2;
        }
        String text = tape.substring(0, n);
        tape = "";
        fault = 0;
        faultPlace = NONE;
        NetText read;
        try {
            read = new NetText(text);
        } catch (Fault f) {
            fault = f.kind;
            faultPlace = f.place;
            return NONE;
        }
        relayEs = read.relays;
        outputEs = read.outputs;
        relayNames = relayEs.keySet();
        knots = read.knots;
        relays = new State();
        relays.none(relayNames);
        race = NONE;
        images = new Image[4];
        return relayNames.size();
    }

    int fault(int what) {
        return what == 0 ? fault : what == 1 ? faultPlace : NONE;
    }

    boolean floor(int w, int h) {
        if (w < 2 || w > 6 || h < 2 || h > 6) {
            return false;
        }
        ground = new Ground();
        ground.w = w;
        ground.h = h;
        ground.bell = w * h - 1;
        mouse = new Being();
        relays.none(relayNames);
        images = new Image[4];
        tape = "";
        return true;
    }

    boolean has(int square) {
        return square >= 0 && square < ground.w * ground.h;
    }

    boolean wall(int square, int side, boolean on) {
        if (!has(square) || side < 0 || side > 3 || ground.next(square, side) == NONE) {
            return false;
        }
        String between = ground.between(square, ground.next(square, side));
        return on ? ground.walls.add(between) : ground.walls.remove(between);
    }

    boolean bell(int square) {
        if (has(square)) {
            ground.bell = square;
        }
        return has(square);
    }

    boolean lift(int square, int side) {
        if (!has(square) || side < 0 || side > 3) {
            return false;
        }
        mouse.square = square;
        mouse.heading = side;
        return true;
    }

    int wipe() {
        int marked = 0;
        for (int s = 0; s < 36; s++) {
            if (mouse.way[s] != 0 || mouse.yes[s][0] || mouse.yes[s][1] || mouse.yes[s][2]) {
                marked++;
            }
        }
        mouse.clear();
        mouse.mode = 0;
        mouse.count = 0;
        relays.none(relayNames);
        return marked;
    }

    int tick(int n) {
        if (n < 0 || n > 5000) {
            return NONE;
        }
        int done = 0;
        for (int i = 0; i < n; i++) {
            mouse.tick(rules, ground);
            done += mouse.line == NONE ? 0 : 1;
        }
        return done;
    }

    int run(int n) {
        return n < 0 || n > 5000 ? NONE : mouse.run(rules, ground, n);
    }

    int mouse(int what) {
        int[] all = {mouse.square, mouse.heading, mouse.mode, mouse.count, mouse.line};
        return what < 0 || what > 4 ? NONE : all[what];
    }

    /** -101 and -102 stand for the two exceptions. */
    int look(int square, int what) {
        if (!has(square)) {
            return -101;
        }
        switch (what) {
            case 0:
                return mouse.way[square];
            case 1:
                return (mouse.yes[square][0] ? 1 : 0) + (mouse.yes[square][1] ? 2 : 0)
                    + (mouse.yes[square][2] ? 4 : 0);
            case 2:
                int bits = 0;
                for (int side = 0; side < 4; side++) {
                    bits += ground.wall(square, side) ? 1 << side : 0;
                }
                return bits;
            case 3:
                return ground.far(square);
            default:
                return -102;
        }
    }

    int comes(int what) {
        List<Integer> lost = new ArrayList<>();
        for (int s = 0; s < ground.w * ground.h; s++) {
            Being b = new Being();
            b.down(s);
            if (ground.far(s) != NONE && b.run(rules, ground, 2000) == NEVER) {
                lost.add(s);
            }
        }
        return what == 0 ? lost.size() : what == 1 && !lost.isEmpty() ? lost.get(0) : NONE;
    }

    int second(int square, int what) {
        if (!has(square) || what < 0 || what > 3) {
            return NONE;
        }
        int[] answers = {NEVER, NEVER, NEVER, NEVER};
        Being b = new Being();
        b.down(square);
        answers[0] = b.run(rules, ground, 2000);
        if (answers[0] != NEVER) {
            answers[2] = b.went;
            b.went = 0;
            b.down(square);
            answers[1] = b.run(rules, ground, 2000);
            if (answers[1] != NEVER) {
                answers[3] = b.went;
            }
        }
        return answers[what];
    }

    interface Visit {
        /** Whether it goes on. */
        boolean see(Ground g, int set, int square);
    }

    void allFloors(int w, int h, Visit visit) {
        Ground g = new Ground();
        g.w = w;
        g.h = h;
        g.bell = w * h - 1;
        List<String> inner = g.inner();
        for (int set = 0; set < 1 << inner.size(); set++) {
            g.walls.clear();
            for (int i = 0; i < inner.size(); i++) {
                if ((set & 1 << i) != 0) {
                    g.walls.add(inner.get(i));
                }
            }
            for (int s = 0; s < w * h; s++) {
                if (g.far(s) != NONE && !visit.see(g, set, s)) {
                    return;
                }
            }
        }
    }

    static boolean small(int w, int h) {
        return w >= 2 && w <= 3 && h >= 2 && h <= 3;
    }

    int held(int w, int h, int what) {
        if (!small(w, h) || what < 0 || what > 1) {
            return NONE;
        }
        int[] found = {NEVER, NEVER};
        allFloors(w, h, (g, set, s) -> {
            Being b = new Being();
            b.down(s);
            if (b.run(rules, g, 100) == NEVER) {
                found[0] = set;
                found[1] = s;
                return false;
            }
            return true;
        });
        return found[what];
    }

    int longest(int w, int h, int what) {
        if (!small(w, h) || what < 0 || what > 2) {
            return NONE;
        }
        int[] found = {NONE, NONE, NONE};
        allFloors(w, h, (g, set, s) -> {
            Being b = new Being();
            b.down(s);
            int ticks = b.run(rules, g, 100);
            if (ticks != NEVER && ticks > found[0]) {
                found[0] = ticks;
                found[1] = set;
                found[2] = s;
            }
            return true;
        });
        return found[what];
    }

    List<Integer> story(Ground g, int square, int barred) {
        List<Integer> told = new ArrayList<>();
        Being b = new Being();
        b.barred = barred;
        b.down(square);
        while (b.square != g.bell && told.size() < 100) {
            b.tick(rules, g);
            told.add(b.square * 4 + b.heading);
        }
        told.add(b.square == g.bell ? 1000 : 2000);
        return told;
    }

    int needs(int yes, int w, int h) {
        if (yes < 0 || yes > 2 || !small(w, h)) {
            return NONE;
        }
        int[] found = {0};
        allFloors(w, h, (g, set, s) -> {
            if (!story(g, s, NONE).equals(story(g, s, yes))) {
                found[0] = 1;
                return false;
            }
            return true;
        });
        return found[0];
    }

    int knows(int square) {
        if (!has(square)) {
            return NONE;
        }
        int at = square;
        Set<Integer> been = new HashSet<>();
        while (at != ground.bell) {
            if (!been.add(at) || ground.wall(at, mouse.way[at])) {
                return NONE;
            }
            at = ground.next(at, mouse.way[at]);
        }
        return been.size();
    }

    int pull(int n) {
        if (n < 0 || n > 5000) {
            return NONE;
        }
        mouse.went = 0;
        for (int i = 0; i < n; i++) {
            netTick(mouse, ground, relays);
        }
        return mouse.went;
    }

    int pullRun(int n) {
        if (n < 0 || n > 5000) {
            return NONE;
        }
        int ticks = 0;
        while (mouse.square != ground.bell && ticks < n) {
            netTick(mouse, ground, relays);
            ticks++;
        }
        return mouse.square == ground.bell ? ticks : NEVER;
    }

    int bits(Set<String> which) {
        int bits = 0;
        int i = 0;
        for (String name : relayNames) {
            bits |= which.contains(name) ? 1 << i : 0;
            i++;
        }
        return bits;
    }

    int relays() {
        Set<String> on = new HashSet<>();
        relays.held.forEach((name, is) -> {
            if (is) {
                on.add(name);
            }
        });
        return bits(on);
    }

    int race() {
        return race;
    }

    boolean stick(int relay, int what) {
        if (relay < 0 || relay >= relayNames.size() || what < 0 || what > 2) {
            return false;
        }
        String name = new ArrayList<>(relayNames).get(relay);
        if (what == 2) {
            relays.stuck.remove(name);
        } else {
            relays.stuck.put(name, what == 1);
            relays.held.put(name, what == 1);
        }
        return true;
    }

    int stuck() {
        return bits(relays.stuck.keySet());
    }

    int same(int t) {
        if (t < 1 || t > 500) {
            return NONE;
        }
        Being a = mouse.copy();
        Being b = mouse.copy();
        State state = new State();
        state.stuck.putAll(relays.stuck);
        state.none(relayNames);
        for (int i = 1; i <= t; i++) {
            a.tick(rules, ground);
            netTick(b, ground, state);
            if (a.square != b.square || a.heading != b.heading || !Arrays.equals(a.way, b.way)) {
                return i;
            }
        }
        return 0;
    }

    List<Integer> track(Ground g, Map<String, Boolean> stuck, int t) {
        Being b = mouse.copy();
        State state = new State();
        state.stuck.putAll(stuck);
        state.none(relayNames);
        List<Integer> told = new ArrayList<>();
        for (int i = 0; i < t; i++) {
            netTick(b, g, state);
            told.add(b.square * 4 + b.heading);
        }
        return told;
    }

    /** Pairs of a relay and whether it is held. */
    List<Map<String, Boolean>> suspectList(int t) {
        List<Map<String, Boolean>> found = new ArrayList<>();
        List<Integer> now = track(ground, relays.stuck, t);
        if (now.equals(track(ground, Map.of(), t))) {
            return found;
        }
        for (String name : relayNames) {
            for (boolean on : new boolean[] {false, true}) {
                if (now.equals(track(ground, Map.of(name, on), t))) {
                    found.add(Map.of(name, on));
                }
            }
        }
        return found;
    }

    int suspects(int t, int what) {
        if (t < 1 || t > 500 || what < 0 || what > 1) {
            return NONE;
        }
        Set<String> names = new HashSet<>();
        for (Map<String, Boolean> one : suspectList(t)) {
            one.forEach((name, on) -> {
                if (on == (what == 1)) {
                    names.add(name);
                }
            });
        }
        return bits(names);
    }

    int trial(int t, int what) {
        if (t < 1 || t > 500 || what < 0 || what > 1) {
            return NONE;
        }
        List<Map<String, Boolean>> all = suspectList(t);
        if (all.size() < 2) {
            return NONE;
        }
        int best = NONE;
        int fewest = 1000;
        List<String> inner = ground.inner();
        for (int i = 0; i < inner.size(); i++) {
            Ground moved = ground.copy();
            if (!moved.walls.remove(inner.get(i))) {
                moved.walls.add(inner.get(i));
            }
            List<Integer> now = track(moved, relays.stuck, t);
            int left = 0;
            for (Map<String, Boolean> one : all) {
                left += now.equals(track(moved, one, t)) ? 1 : 0;
            }
            if (left < fewest) {
                fewest = left;
                best = i;
            }
        }
        return what == 0 ? best : fewest;
    }

    boolean keep(int k) {
        if (k < 0 || k > 3) {
            return false;
        }
        images[k] = new Image(mouse.copy(), ground.copy(), new LinkedHashMap<>(relays.held));
        return true;
    }

    boolean restore(int k) {
        if (k < 0 || k > 3 || images[k] == null) {
            return false;
        }
        int line = mouse.line;
        mouse = images[k].mouse.copy();
        mouse.line = line;
        ground = images[k].ground.copy();
        relays.held.putAll(images[k].held);
        relays.held.putAll(relays.stuck);
        return true;
    }

    int count(int what) {
        int kept = 0;
        for (Image image : images) {
            kept += image == null ? 0 : 1;
        }
        int[] all = {ground.w * ground.h, rules.size(), relayNames.size(), knots, ground.walls.size(), ground.bell,
            kept};
        return what < 0 || what > 6 ? NONE : all[what];
    }
}
