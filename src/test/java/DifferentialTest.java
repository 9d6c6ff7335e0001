import java.util.Random;

/** Random runs of calls on a RelayMouse and on the plain Model: every answer must be the same. */
public final class DifferentialTest {
    private final Check check;
    private final Random random;
    private final Texts texts;
    private final RelayMouse x = new RelayMouse();
    private final Model m = new Model();
    private final String run;

    private DifferentialTest(Check check, long seed) {
        this.check = check;
        this.random = new Random(seed);
        this.texts = new Texts(random);
        this.run = "run " + seed + ": ";
    }

    public static void main(String[] args) {
        int runs = args.length > 0 ? Integer.parseInt(args[0]) : 400;
        long first = args.length > 1 ? Long.parseLong(args[1]) : 1;
        Check check = new Check("DifferentialTest");
        for (long seed = first; seed < first + runs; seed++) {
            new DifferentialTest(check, seed).go();
        }
        check.end();
    }

    private void due(String call, long got, long want) {
        check.due(run + call, got, want);
    }

    private void due(String call, boolean got, boolean want) {
        check.due(run + call, got, want);
    }

    private void go() {
        if (random.nextInt(4) != 0) {
            tellRules();
            tellNet();
        }
        for (int i = 0; i < 140; i++) {
            step();
        }
        lookAtAll();
    }

    private int some(int below) {
        return random.nextInt(12) == 0 ? random.nextInt(below + 4) - 2 : random.nextInt(below);
    }

    private int square() {
        return some(m.ground.w * m.ground.h);
    }

    private int ticks() {
        return random.nextInt(20) == 0 ? 4999 + random.nextInt(3) : random.nextInt(20) == 0 ? -1 : random.nextInt(30);
    }

    private int length() {
        return random.nextInt(15) == 0 ? random.nextInt(3) - 1
            : random.nextInt(25) == 0 ? 499 + random.nextInt(3) : 1 + random.nextInt(25);
    }

    private void step() {
        int kind = random.nextInt(100);
        if (kind < 4) {
            tellRules();
        } else if (kind < 8) {
            tellNet();
        } else if (kind < 9) {
            feedSome();
        } else if (kind < 30) {
            handle();
        } else if (kind < 50) {
            lead();
        } else if (kind < 70) {
            ask();
        } else if (kind < 71) {
            askSmall();
        } else if (kind < 90) {
            relays();
        } else {
            keepAndRestore();
        }
    }

    private void feed(String text) {
        for (int at = 0; at < text.length(); at += 20) {
            int[] n = new int[5];
            for (int i = 0; i < 5; i++) {
                n[i] = Check.four(text, at + 4 * i);
            }
            due("feed", x.feed(n[0], n[1], n[2], n[3], n[4]), m.feed(n[0], n[1], n[2], n[3], n[4]));
        }
    }

    private int lengthFor(String text) {
        int n = m.tape.length() - (text.length() + 19) / 20 * 20 + text.length();
        return random.nextInt(20) == 0 ? random.nextInt(n + 30) - 3 : n;
    }

    private void tellRules() {
        String text = texts.rules();
        feed(text);
        int n = lengthFor(text);
        due("rules " + text, x.rules(n), m.rules(n));
        faults(text);
    }

    private void tellNet() {
        String text = texts.net();
        feed(text);
        int n = lengthFor(text);
        due("net " + text, x.net(n), m.net(n));
        faults(text);
    }

    private void faults(String text) {
        for (int what = -1; what < 3; what++) {
            due("fault " + what + " of " + text, x.fault(what), m.fault(what));
        }
    }

    private void feedSome() {
        int a = random.nextInt();
        due("feed " + a, x.feed(a, a, a, a, a), m.feed(a, a, a, a, a));
        if (random.nextBoolean()) {
            int n = random.nextInt(25) - 2;
            due("rules " + n, x.rules(n), m.rules(n));
            faults("random bytes");
        }
    }

    private void handle() {
        int s = square();
        int side = some(4);
        boolean on = random.nextInt(3) != 0;
        switch (random.nextInt(12)) {
            case 0:
                int w = 2 + some(5);
                int h = 2 + some(5);
                due("floor " + w + " " + h, x.floor(w, h), m.floor(w, h));
                break;
            case 1:
                due("bell " + s, x.bell(s), m.bell(s));
                break;
            case 2:
            case 3:
            case 4:
                due("lift " + s + " " + side, x.lift(s, side), m.lift(s, side));
                break;
            case 5:
                due("wipe", x.wipe(), m.wipe());
                break;
            default:
                due("wall " + s + " " + side + " " + on, x.wall(s, side, on), m.wall(s, side, on));
                break;
        }
    }

    private void lead() {
        int n = ticks();
        switch (random.nextInt(4)) {
            case 0:
                due("tick " + n, x.tick(n), m.tick(n));
                break;
            case 1:
                due("run " + n, x.run(n), m.run(n));
                break;
            case 2:
                due("pull " + n, x.pull(n), m.pull(n));
                break;
            default:
                due("pullRun " + n, x.pullRun(n), m.pullRun(n));
                break;
        }
        mouse();
    }

    private void mouse() {
        for (int what = -1; what < 6; what++) {
            due("mouse " + what, x.mouse(what), m.mouse(what));
        }
        due("relays", x.relays(), m.relays());
        due("race", x.race(), m.race());
    }

    private int look(int square, int what) {
        try {
            return x.look(square, what);
        } catch (IndexOutOfBoundsException e) {
            return -101;
        } catch (java.util.NoSuchElementException e) {
            return -102;
        }
    }

    private void ask() {
        int s = square();
        int what = some(4);
        switch (random.nextInt(5)) {
            case 0:
                due("look " + s + " " + what, look(s, what), m.look(s, what));
                break;
            case 1:
                int which = some(2);
                due("comes " + which, x.comes(which), m.comes(which));
                break;
            case 2:
                due("second " + s + " " + what, x.second(s, what), m.second(s, what));
                break;
            case 3:
                due("knows " + s, x.knows(s), m.knows(s));
                break;
            default:
                int part = some(7);
                due("count " + part, x.count(part), m.count(part));
                break;
        }
    }

    private void askSmall() {
        int w = random.nextInt(10) == 0 ? 3 : random.nextInt(20) == 0 ? 1 + random.nextInt(4) : 2;
        int h = random.nextInt(3) == 0 ? 3 : 2;
        int what = some(3);
        due("held " + w + h + what, x.held(w, h, what), m.held(w, h, what));
        due("longest " + w + h + what, x.longest(w, h, what), m.longest(w, h, what));
        due("longest " + w + h + 1, x.longest(w, h, 1), m.longest(w, h, 1));
        due("needs " + what + w + h, x.needs(what, w, h), m.needs(what, w, h));
    }

    private void relays() {
        int t = length();
        int what = some(2);
        switch (random.nextInt(6)) {
            case 0:
            case 1:
                int relay = some(Math.max(1, m.relayNames.size()));
                int how = some(3);
                due("stick " + relay + " " + how, x.stick(relay, how), m.stick(relay, how));
                due("stuck", x.stuck(), m.stuck());
                due("relays", x.relays(), m.relays());
                break;
            case 2:
                due("same " + t, x.same(t), m.same(t));
                break;
            case 3:
                due("suspects " + t + " " + what, x.suspects(t, what), m.suspects(t, what));
                break;
            case 4:
                due("trial " + t + " " + what, x.trial(t, what), m.trial(t, what));
                break;
            default:
                due("race", x.race(), m.race());
                due("relays", x.relays(), m.relays());
                due("stuck", x.stuck(), m.stuck());
                break;
        }
    }

    private void keepAndRestore() {
        int k = some(4);
        if (random.nextBoolean()) {
            due("keep " + k, x.keep(k), m.keep(k));
        } else {
            due("restore " + k, x.restore(k), m.restore(k));
            mouse();
        }
    }

    private void lookAtAll() {
        mouse();
        for (int what = -1; what < 8; what++) {
            due("count " + what, x.count(what), m.count(what));
        }
        for (int s = 0; s < m.ground.w * m.ground.h; s++) {
            for (int what = 0; what < 4; what++) {
                due("look " + s + " " + what, look(s, what), m.look(s, what));
            }
        }
    }
}
