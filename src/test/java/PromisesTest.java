/** For each promise of the document: ordinary calls, the edges that it names, and wrong inputs. */
public final class PromisesTest {
    private static final int NONE = RelayMouse.NONE;
    private static final int NEVER = RelayMouse.NEVER;
    private static final int BIG = Integer.MAX_VALUE;
    private static final int LOW = Integer.MIN_VALUE;

    private static final String BORDER = "if bump do right; do keep go;";
    private static final String BORDER_NET =
        "relay a = bump and not a; right = a; go = not bump and not a; keep = not bump;";

    private final Check check = new Check("PromisesTest");

    public static void main(String[] args) {
        PromisesTest test = new PromisesTest();
        test.newObject();
        test.feed();
        test.rules();
        test.net();
        test.fault();
        test.floor();
        test.wall();
        test.bell();
        test.lift();
        test.wipe();
        test.tick();
        test.acts();
        test.tests();
        test.run();
        test.mouse();
        test.look();
        test.comes();
        test.second();
        test.held();
        test.longest();
        test.needs();
        test.knows();
        test.pull();
        test.pullRun();
        test.relays();
        test.race();
        test.stick();
        test.stuck();
        test.same();
        test.suspects();
        test.trial();
        test.keep();
        test.restore();
        test.count();
        test.allIsAsItWas();
        test.check.end();
    }

    private void due(String call, long got, long want) {
        check.due(call, got, want);
    }

    private void due(String call, boolean got, boolean want) {
        check.due(call, got, want);
    }

    private static RelayMouse on(int w, int h) {
        RelayMouse x = new RelayMouse();
        x.floor(w, h);
        return x;
    }

    private void mouseIs(String when, RelayMouse x, int square, int heading) {
        due(when + ": square", x.mouse(0), square);
        due(when + ": heading", x.mouse(1), heading);
    }

    private void newObject() {
        RelayMouse x = new RelayMouse();
        int[] counts = {25, 0, 0, 0, 0, 24, 0};
        for (int what = 0; what < counts.length; what++) {
            due("1 count " + what, x.count(what), counts[what]);
        }
        int[] mouse = {0, 0, 0, 0, NONE};
        for (int what = 0; what < mouse.length; what++) {
            due("1 mouse " + what, x.mouse(what), mouse[what]);
        }
        for (int square = 0; square < 25; square++) {
            due("1 way " + square, x.look(square, 0), 0);
            due("1 yeses " + square, x.look(square, 1), 0);
            int rim = (square < 5 ? 1 : 0) + (square % 5 == 4 ? 2 : 0) + (square >= 20 ? 4 : 0)
                + (square % 5 == 0 ? 8 : 0);
            due("1 walls " + square, x.look(square, 2), rim);
        }
        due("1 tape", x.rules(1), -2);
        due("1 tape", x.feed(0, 0, 0, 0, 0), 20);
        due("1 fault", x.fault(0), 0);
        due("1 place", x.fault(1), NONE);
        for (int k = 0; k < 4; k++) {
            due("1 image " + k, x.restore(k), false);
        }
        due("1 relays", x.relays(), 0);
        due("1 stuck", x.stuck(), 0);
        due("1 race", x.race(), NONE);
        due("1 tick", x.tick(5), 0);
        due("1 pull", x.pull(5), 0);
        mouseIs("1 without rules and net", x, 0, 0);
    }

    private void feed() {
        RelayMouse x = new RelayMouse();
        int go = Check.four("go ;", 0);
        int blank = Check.four("    ", 0);
        for (int i = 1; i <= 25; i++) {
            due("2 feed " + i, x.feed(blank, blank, blank, blank, blank), 20 * i);
        }
        due("2 feed beyond 500", x.feed(go, go, go, go, go), NONE);
        due("2 nothing came", x.rules(501), -2);
        due("2 rules of 500 blanks", x.rules(500), 0);
        due("2 feed again", x.feed(Check.four("do r", 0), Check.four("ight", 0), Check.four(" go ", 0),
            Check.four("keep", 0), Check.four("  ; ", 0)), 20);
        due("2 the highest byte comes first", x.rules(20), 1);
        x.feed(Check.four("do ", 0) & ~255 | 255, 0, 0, 0, 0);
        due("2 byte 255", x.rules(4), NONE);
        due("2 its place", x.fault(1), 3);
        x.feed(LOW, 0, 0, 0, 0);
        due("2 byte 128", x.rules(1), NONE);
        due("2 its place", x.fault(1), 0);
    }

    private void rules() {
        RelayMouse x = on(2, 2);
        due("3 rules", Check.rules(x, BORDER), 2);
        due("3 the tape is empty", x.rules(1), -2);
        due("3 nothing at all is no rule", x.rules(0), 0);
        due("3 no lines now", x.tick(1), 0);
        Check.feed(x, "do go;do left;");
        due("3 below 0", x.rules(-1), -2);
        due("3 least", x.rules(LOW), -2);
        due("3 too many", x.rules(21), -2);
        due("3 most", x.rules(BIG), -2);
        due("3 the tape stayed, its first 6 are taken", x.rules(6), 1);
        due("3 the rest is gone", x.rules(1), -2);
        due("3 lines", x.count(1), 1);
        due("3 faulty", Check.rules(x, "do go;do foo;"), NONE);
        due("3 the rules stay", x.count(1), 1);
        due("3 the tape is empty behind a fault", x.rules(1), -2);
        Check.rules(x, "do right;");
        x.tick(1);
        due("3 line 0 was done", x.mouse(4), 0);
        x.rules(99);
        due("3 -2 changes nothing", x.mouse(4), 0);
        Check.rules(x, "x");
        due("3 nor does a fault", x.mouse(4), 0);
        due("3 the old rules lead", x.tick(1), 1);
        mouseIs("3 turned twice", x, 0, 2);
        x.keep(0);
        Check.rules(x, "do left;");
        due("3 new rules: no line yet", x.mouse(4), NONE);
        mouseIs("3 the mouse stays", x, 0, 2);
        due("3 images stay", x.count(6), 1);
    }

    private void net() {
        RelayMouse x = on(2, 2);
        due("4 net", Check.net(x, BORDER_NET), 1);
        due("4 the tape is empty", x.net(1), -2);
        due("4 empty net", x.net(0), 0);
        due("4 no knots", x.count(3), 0);
        Check.feed(x, "relay a = a; relay b = a;");
        due("4 below 0", x.net(-1), -2);
        due("4 least", x.net(LOW), -2);
        due("4 too many", x.net(41), -2);
        due("4 the first 12", x.net(12), 1);
        due("4 only they", x.count(2), 1);
        Check.net(x, "relay a = not a; relay b = not b and a or a and b; go = b;");
        x.pull(1);
        x.stick(1, 1);
        x.keep(2);
        due("4 relays hold", x.relays(), 3);
        due("4 faulty", Check.net(x, "relay a = ;"), NONE);
        due("4 it stays: relays", x.relays(), 3);
        due("4 it stays: stuck", x.stuck(), 2);
        due("4 it stays: images", x.count(6), 1);
        due("4 it stays: knots", x.count(3), 11);
        due("4 only as many relays", x.count(2), 2);
        due("4 another", Check.net(x, "relay c = not c;relay d = not c;go = c;"), 2);
        due("4 none holds", x.relays(), 0);
        due("4 none is stuck", x.stuck(), 0);
        due("4 no images", x.count(6), 0);
        due("4 no image to go back to", x.restore(2), false);
        due("4 no race", x.race(), NONE);
        x.lift(0, 1);
        due("4 outputs by relays as they are", x.pull(1), 1);
        Check.net(x, "relay c = not c;relay d = c;");
        x.lift(0, 1);
        due("4 outputs without a line are not", x.pull(4), 0);
        mouseIs("4 it stands", x, 0, 1);
    }

    private void fault() {
        RelayMouse x = new RelayMouse();
        due("5 at first", x.fault(0), 0);
        due("5 at first", x.fault(1), NONE);
        Check.rules(x, "do  go");
        due("5 fault", x.fault(0), 1);
        due("5 place", x.fault(1), 6);
        due("5 what 2", x.fault(2), NONE);
        due("5 what -1", x.fault(-1), NONE);
        due("5 what most", x.fault(BIG), NONE);
        x.rules(1000);
        x.net(-5);
        due("5 -2 leaves it", x.fault(0), 1);
        due("5 -2 leaves it", x.fault(1), 6);
        Check.net(x, "go=x;");
        due("5 of the net", x.fault(0), 4);
        due("5 of the net", x.fault(1), 3);
        x.floor(3, 3);
        due("5 another floor leaves it", x.fault(0), 4);
        Check.rules(x, "do go;");
        due("5 none", x.fault(0), 0);
        due("5 none", x.fault(1), NONE);
    }

    private void floor() {
        int[][] wrong = {{1, 2}, {2, 1}, {7, 6}, {6, 7}, {0, 0}, {-2, 3}, {BIG, 2}, {2, LOW}};
        RelayMouse x = new RelayMouse();
        x.keep(0);
        for (int[] size : wrong) {
            due("6 floor " + size[0] + " " + size[1], x.floor(size[0], size[1]), false);
        }
        due("6 false changes nothing", x.count(0), 25);
        due("6 false changes nothing", x.count(6), 1);
        for (int w = 2; w <= 6; w++) {
            for (int h = 2; h <= 6; h++) {
                due("6 floor " + w + " " + h, x.floor(w, h), true);
                due("6 squares " + w + " " + h, x.count(0), w * h);
                due("6 bell " + w + " " + h, x.count(5), w * h - 1);
                due("6 far " + w + " " + h, x.look(0, 3), w + h - 2);
                due("6 walls " + w + " " + h, x.look(w - 1, 2), 3);
            }
        }
        x = new RelayMouse();
        Check.rules(x, "do mode 3 add set 2 keep go right;");
        Check.net(x, "relay a = not a;relay b = bump or not bump;");
        x.tick(1);
        x.pull(1);
        x.stick(1, 1);
        x.wall(7, 1, true);
        x.bell(3);
        x.lift(6, 2);
        x.tick(1);
        x.keep(1);
        Check.feed(x, "do go;");
        due("6 another", x.floor(3, 4), true);
        mouseIs("6 the mouse", x, 0, 0);
        due("6 mode", x.mouse(2), 0);
        due("6 count", x.mouse(3), 0);
        due("6 no line", x.mouse(4), NONE);
        due("6 no walls", x.count(4), 0);
        due("6 the last is the bell", x.count(5), 11);
        due("6 no relay holds but stuck ones", x.relays(), 2);
        due("6 nothing to wipe", x.wipe(), 0);
        due("6 stuck ones stay", x.stuck(), 2);
        due("6 no images", x.count(6), 0);
        due("6 rules stay", x.count(1), 1);
        due("6 the net stays", x.count(2), 2);
        due("6 the tape is as at first", x.feed(0, 0, 0, 0, 0), 20);
    }

    private void wall() {
        RelayMouse x = on(3, 2);
        due("7 it is so", x.wall(0, 1, false), false);
        due("7 wall", x.wall(0, 1, true), true);
        due("7 it is so", x.wall(0, 1, true), false);
        due("7 from the other side", x.wall(1, 3, true), false);
        due("7 from the other side", x.wall(1, 3, false), true);
        due("7 none", x.count(4), 0);
        due("7 below", x.wall(1, 2, true), true);
        due("7 seen from above", x.look(1, 2), 5);
        due("7 seen from below", x.look(4, 2), 5);
        due("7 up", x.wall(5, 0, true), true);
        due("7 left", x.wall(5, 3, true), true);
        due("7 three", x.count(4), 3);
        due("7 none can come", x.look(0, 3), NONE);
        int[][] rim = {{0, 0}, {0, 3}, {2, 1}, {3, 2}, {3, 3}, {5, 1}, {5, 2}, {2, 0}};
        for (int[] at : rim) {
            due("7 rim " + at[0] + " " + at[1], x.wall(at[0], at[1], false), false);
            due("7 rim " + at[0] + " " + at[1], x.wall(at[0], at[1], true), false);
        }
        int[][] wrong = {{-1, 1}, {6, 3}, {0, -1}, {0, 4}, {BIG, 1}, {1, BIG}, {LOW, 0}, {1, LOW}, {64, 1}, {1, 5}};
        for (int[] at : wrong) {
            due("7 wrong " + at[0] + " " + at[1], x.wall(at[0], at[1], true), false);
        }
        due("7 nothing changed", x.count(4), 3);
    }

    private void bell() {
        RelayMouse x = on(3, 2);
        due("8 bell", x.bell(1), true);
        due("8 it is there", x.count(5), 1);
        due("8 so it is again", x.bell(1), true);
        due("8 far", x.look(3, 3), 2);
        due("8 far", x.look(1, 3), 0);
        int[] wrong = {-1, 6, BIG, LOW};
        for (int square : wrong) {
            due("8 wrong " + square, x.bell(square), false);
        }
        due("8 it stays", x.count(5), 1);
        due("8 first", x.bell(0), true);
        due("8 the mouse is there", x.run(0), 0);
    }

    private void lift() {
        RelayMouse x = on(3, 3);
        Check.rules(x, "do mode 4 add keep set 1 right;");
        Check.net(x, "relay a = not a;");
        x.tick(1);
        x.pull(1);
        due("9 lift", x.lift(7, 3), true);
        mouseIs("9 set down", x, 7, 3);
        due("9 mode stays", x.mouse(2), 4);
        due("9 count stays", x.mouse(3), 1);
        due("9 yeses stay", x.look(0, 1), 2);
        due("9 relays stay", x.relays(), 1);
        due("9 line stays", x.mouse(4), 0);
        int[][] wrong = {{-1, 0}, {9, 0}, {0, -1}, {0, 4}, {BIG, BIG}, {LOW, LOW}};
        for (int[] at : wrong) {
            due("9 wrong " + at[0] + " " + at[1], x.lift(at[0], at[1]), false);
        }
        mouseIs("9 it stays", x, 7, 3);
    }

    private void wipe() {
        RelayMouse x = on(3, 3);
        Check.rules(x, "if yes 2 do mode 7 add back; if bump do right set 1 add; do keep go set 2;");
        Check.net(x, "relay a = not a;relay b = not b;relay c = not c;");
        // Right in square 0 with a yes there; keeps the way 1 there, goes to 1 with another yes.
        x.tick(3);
        x.pull(1);
        x.stick(0, 1);
        x.stick(1, 0);
        due("10 way of 0", x.look(0, 0), 1);
        due("10 yes of 0", x.look(0, 1), 2);
        due("10 yes of 1", x.look(1, 1), 4);
        due("10 mode", x.mouse(2), 7);
        due("10 relays", x.relays(), 5);
        due("10 wipe", x.wipe(), 2);
        due("10 way", x.look(0, 0), 0);
        due("10 yes", x.look(0, 1), 0);
        due("10 yes", x.look(1, 1), 0);
        due("10 mode", x.mouse(2), 0);
        due("10 count", x.mouse(3), 0);
        due("10 no relay holds but stuck ones", x.relays(), 1);
        mouseIs("10 it stays", x, 1, 3);
        due("10 the line stays", x.mouse(4), 0);
        due("10 nothing more", x.wipe(), 0);
    }

    private void tick() {
        RelayMouse x = on(2, 2);
        Check.rules(x, "if not count 3 do add; if mode 1 do go;");
        due("11 none", x.tick(0), 0);
        due("11 no tick", x.mouse(4), NONE);
        due("11 three are done, then none", x.tick(5), 3);
        due("11 none done", x.mouse(4), NONE);
        due("11 below 0", x.tick(-1), NONE);
        due("11 too many", x.tick(5001), NONE);
        due("11 far too many", x.tick(BIG), NONE);
        due("11 least", x.tick(LOW), NONE);
        Check.rules(x, "do right;");
        due("11 most", x.tick(5000), 5000);
        mouseIs("11 5000 quarters are whole turns", x, 0, 0);
        Check.rules(x, BORDER);
        due("11 the bell is no end", x.tick(12), 12);
        // Right, go, right, go, and so on: round in 8 ticks.
        mouseIs("11 behind 12", x, 3, 2);
        due("11 the second line", x.mouse(4), 1);
    }

    private void acts() {
        RelayMouse x = on(3, 3);
        x.lift(4, 0);
        String[] turns = {"right", "left", "back", "right right", "left back", "back back", "face"};
        int[] headings = {2, 0, 3, 3, 2, 1, 0};
        for (int i = 0; i < turns.length; i++) {
            x.lift(4, 1);
            Check.rules(x, "do " + turns[i] + ";");
            x.tick(1);
            mouseIs("act " + turns[i], x, 4, headings[i]);
        }
        int[] ahead = {1, 5, 7, 3};
        for (int side = 0; side < 4; side++) {
            x.lift(4, side);
            Check.rules(x, "do go;");
            x.tick(1);
            mouseIs("act go " + side, x, ahead[side], side);
            x.tick(1);
            mouseIs("act go at the rim " + side, x, ahead[side], side);
        }
        x.wall(4, 1, true);
        x.lift(4, 1);
        x.tick(1);
        mouseIs("act go to a wall", x, 4, 1);
        Check.rules(x, "do keep left face set 0 set 2 drop 0 mode 9 mode 0 add add;");
        x.tick(1);
        due("act keep", x.look(4, 0), 1);
        mouseIs("act face", x, 4, 1);
        due("act set, drop", x.look(4, 1), 4);
        due("act mode", x.mouse(2), 0);
        due("act add", x.mouse(3), 2);
        Check.rules(x, "do mode 9 add;");
        x.tick(200);
        due("act add: 99 at most", x.mouse(3), 99);
        due("act mode 9", x.mouse(2), 9);
        Check.rules(x, "do wipe set 1 left keep;");
        x.tick(1);
        due("act wipe: what comes behind it stays", x.look(4, 1), 2);
        due("act keep behind wipe", x.look(4, 0), 0);
        due("act wipe leaves the count", x.mouse(3), 99);
        due("act wipe leaves the mode", x.mouse(2), 9);
        Check.rules(x, "do zero drop 1 drop 1;");
        x.tick(1);
        due("act zero", x.mouse(3), 0);
        due("act drop", x.look(4, 1), 0);
        Check.rules(x, "do right go left go;");
        x.lift(3, 0);
        x.tick(1);
        mouseIs("acts in their row, one line in a tick", x, 1, 0);
    }

    private void testIs(String when, RelayMouse x, String test, boolean holds) {
        Check.rules(x, "if " + test + " do mode 0;");
        due("test " + test + " " + when, x.tick(1), holds ? 1 : 0);
        Check.rules(x, "if not " + test + " do mode 0;");
        due("test not " + test + " " + when, x.tick(1), holds ? 0 : 1);
    }

    private void tests() {
        RelayMouse x = on(3, 2);
        testIs("at the rim", x, "bump", true);
        testIs("at way 0", x, "way", true);
        x.lift(0, 2);
        testIs("free", x, "bump", false);
        testIs("off the way", x, "way", false);
        x.wall(0, 2, true);
        testIs("at a wall", x, "bump", true);
        testIs("elsewhere", x, "bell", false);
        x.lift(5, 0);
        testIs("there", x, "bell", true);
        testIs("at first", x, "mode 0", true);
        testIs("at first", x, "mode 1", false);
        testIs("at first", x, "count 0", true);
        testIs("at first", x, "count 1", false);
        Check.rules(x, "do add add add set 1;");
        x.tick(1);
        testIs("at 3", x, "count 2", true);
        testIs("at 3", x, "count 3", true);
        testIs("at 3", x, "count 4", false);
        testIs("set", x, "yes 1", true);
        testIs("unset", x, "yes 0", false);
        testIs("unset", x, "yes 2", false);
        x.lift(4, 0);
        testIs("of another square", x, "yes 1", false);
        Check.rules(x, "if count 2 not count 4 not yes 0 not bump do go; do right;");
        due("all tests of a line", x.tick(1), 1);
        due("all tests of a line", x.mouse(4), 0);
        Check.rules(x, "if mode 0 mode 1 do go; if count 3 not count 2 do go; if not count 0 do go; do right;");
        x.tick(1);
        due("lines that never hold", x.mouse(4), 3);
        for (int mode = 0; mode < 10; mode++) {
            x.lift(4, 0);
            Check.rules(x, "do mode " + mode + ";");
            x.tick(1);
            for (int other = 0; other < 10; other++) {
                Check.rules(x, "if mode " + other + " do keep;");
                due("mode " + other + " at " + mode, x.tick(1), other == mode ? 1 : 0);
            }
            testIs("at mode " + mode, on(3, 2), "bump", true);
            Check.rules(x, "if bump do keep; if bell do keep; if not way do keep; if yes 2 do keep;");
            due("no other sign at mode " + mode, x.tick(1), 0);
        }
    }

    private void run() {
        RelayMouse x = on(2, 2);
        Check.rules(x, BORDER);
        due("12 none", x.run(0), NEVER);
        due("12 three are done", x.run(3), NEVER);
        mouseIs("12 behind three", x, 1, 2);
        due("12 one more, just in time", x.run(1), 1);
        due("12 it is there", x.run(0), 0);
        due("12 it is there", x.run(5000), 0);
        x.lift(2, 0);
        due("12 from 2", x.run(5000), 5);
        due("12 below 0", x.run(-1), NONE);
        due("12 too many", x.run(5001), NONE);
        due("12 least", x.run(LOW), NONE);
        Check.rules(x, "do right;");
        x.lift(0, 0);
        due("12 never", x.run(4999), NEVER);
        mouseIs("12 all were done", x, 0, 3);
        Check.rules(x, "do right go left back go;");
        x.bell(1);
        x.lift(0, 0);
        due("12 it is asked behind a tick alone", x.run(7), NEVER);
        x.lift(0, 0);
        Check.rules(x, "if mode 1 do go;");
        due("12 without a line", x.run(7), NEVER);
        due("12 no line", x.mouse(4), NONE);
        Check.rules(x, "do right go;");
        due("12 one", x.run(7), 1);
        due("12 line 0", x.mouse(4), 0);
        due("12 no tick leaves the line", x.run(7), 0);
        due("12 no tick leaves the line", x.mouse(4), 0);
    }

    private void mouse() {
        RelayMouse x = on(4, 3);
        Check.rules(x, "if mode 5 do add; do mode 5;");
        x.lift(6, 3);
        x.tick(4);
        int[] due = {6, 3, 5, 3, 0};
        for (int what = 0; what < due.length; what++) {
            due("13 mouse " + what, x.mouse(what), due[what]);
        }
        due("13 what 5", x.mouse(5), NONE);
        due("13 what -1", x.mouse(-1), NONE);
        due("13 what most", x.mouse(BIG), NONE);
        due("13 what least", x.mouse(LOW), NONE);
        x.floor(7, 7);
        due("13 no other floor", x.mouse(4), 0);
        x.floor(4, 3);
        due("13 another floor", x.mouse(4), NONE);
    }

    private void look() {
        RelayMouse x = on(3, 3);
        Check.rules(x, "do right keep set 0 set 1 set 2;");
        x.lift(4, 2);
        x.tick(1);
        due("14 way", x.look(4, 0), 3);
        due("14 yeses", x.look(4, 1), 7);
        due("14 no walls", x.look(4, 2), 0);
        due("14 far", x.look(4, 3), 2);
        for (int way = 0; way < 4; way++) {
            Check.rules(x, "do keep;");
            x.lift(way, way);
            x.tick(1);
            due("14 way " + way, x.look(way, 0), way);
        }
        for (int yes = 0; yes < 3; yes++) {
            Check.rules(x, "do set " + yes + ";");
            x.lift(yes, 0);
            x.tick(1);
            due("14 yes " + yes, x.look(yes, 1), 1 << yes);
        }
        for (int side = 0; side < 4; side++) {
            x.wall(4, side, true);
            due("14 walls up to side " + side, x.look(4, 2), (2 << side) - 1);
        }
        due("14 one can't come", x.look(4, 3), NONE);
        due("14 round the wall", x.look(0, 3), 4);
        x.wall(3, 2, true);
        x.wall(1, 1, true);
        due("14 one can't come", x.look(0, 3), NONE);
        due("14 at the bell", x.look(8, 3), 0);
        int[] wrong = {-1, 9, 36, BIG, LOW};
        for (int square : wrong) {
            due("14 throws at square " + square, Check.thrownByLook(x, square, 0), 1);
            due("14 throws at square " + square + " with a wrong what", Check.thrownByLook(x, square, 9), 1);
        }
        int[] whats = {-1, 4, BIG, LOW};
        for (int what : whats) {
            due("14 throws at what " + what, Check.thrownByLook(x, 0, what), 2);
        }
        // A long way round on the largest floor: down, up, down in columns.
        x.floor(6, 6);
        for (int column = 0; column < 5; column++) {
            for (int row = 0; row < 6; row++) {
                if (row != (column % 2 == 0 ? 5 : 0)) {
                    x.wall(row * 6 + column, 1, true);
                }
            }
        }
        x.bell(5);
        due("14 the longest way", x.look(0, 3), 35);
    }

    private void comes() {
        RelayMouse x = on(3, 2);
        due("15 without rules", x.comes(0), 5);
        due("15 without rules", x.comes(1), 0);
        x.wall(0, 1, true);
        x.wall(0, 2, true);
        due("15 one can't come from 0", x.comes(0), 4);
        due("15 the first", x.comes(1), 1);
        Check.rules(x, BORDER);
        due("15 from everywhere else", x.comes(0), 0);
        due("15 no first", x.comes(1), NONE);
        due("15 what 2", x.comes(2), NONE);
        due("15 what -1", x.comes(-1), NONE);
        due("15 what least", x.comes(LOW), NONE);
        x.floor(3, 3);
        x.bell(4);
        due("15 round and round", x.comes(0), 7);
        due("15 round and round", x.comes(1), 0);
        x.floor(2, 2);
        x.wall(1, 2, true);
        x.bell(1);
        x.wall(0, 2, true);
        due("15 rules", Check.rules(x, slow("")) > 0, true);
        due("15 in 2000 ticks", x.comes(0), 0);
        due("15 rules", Check.rules(x, slow("if yes 0 not yes 1 do set 1;")) > 0, true);
        due("15 in 2001 ticks", x.comes(0), 1);
        due("15 in 2001 ticks", x.comes(1), 0);
    }

    /** Rules that wait for 1999 ticks and then go right; what they do ahead of that costs ticks more. */
    private static String slow(String first) {
        StringBuilder text = new StringBuilder(first);
        for (int mode = 0; mode < 9; mode++) {
            text.append("if mode ").append(mode).append(" count 99 do zero mode ").append(mode + 1).append(';');
        }
        return text + "if count 99 yes 0 do right go;if count 99 do zero mode 0 set 0;do add;";
    }

    private void second() {
        RelayMouse x = on(2, 2);
        Check.rules(x, BORDER);
        int[] from0 = {4, 4, 2, 2};
        int[] from2 = {5, 5, 3, 3};
        for (int what = 0; what < 4; what++) {
            due("16 from 0 " + what, x.second(0, what), from0[what]);
            due("16 from 2 " + what, x.second(2, what), from2[what]);
            due("16 from the bell " + what, x.second(3, what), 0);
        }
        // The first run looks for the way, the second one goes it: each square knows its way then.
        Check.rules(x, "if mode 0 yes 0 do face go; if not bump do keep set 0 go mode 0; do left mode 1;");
        x.wall(0, 1, true);
        due("16 the first run", x.second(0, 0), 5);
        due("16 the second run", x.second(0, 1), 2);
        due("16 goes of the first", x.second(0, 2), 2);
        due("16 goes of the second", x.second(0, 3), 2);
        // Comes once and then no more.
        Check.rules(x, "if yes 1 do right; if bump do right; do keep set 1 go;");
        x.wall(0, 1, false);
        due("16 once", x.second(1, 0), 3);
        due("16 and no more", x.second(1, 1), NEVER);
        due("16 once", x.second(1, 2), 1);
        due("16 and no more", x.second(1, 3), NEVER);
        Check.rules(x, "do right;");
        for (int what = 0; what < 4; what++) {
            due("16 never " + what, x.second(0, what), NEVER);
        }
        Check.rules(x, "do right go right go;");
        due("16 two goes in a tick", x.second(0, 2), 2);
        int[][] wrong = {{-1, 0}, {4, 0}, {0, -1}, {0, 4}, {BIG, 0}, {0, LOW}};
        for (int[] at : wrong) {
            due("16 wrong " + at[0] + " " + at[1], x.second(at[0], at[1]), NONE);
        }
        x.bell(1);
        Check.rules(x, slow(""));
        due("16 2000 ticks are enough", x.second(0, 0), 2000);
        due("16 goes", x.second(0, 2), 1);
        due("16 square 0 has its yes now", x.second(0, 1), 1000);
        Check.rules(x, slow("if yes 0 not yes 1 do set 1;"));
        due("16 2001 ticks are too many", x.second(0, 0), NEVER);
    }

    private void held() {
        RelayMouse x = new RelayMouse();
        due("17 without rules", x.held(2, 2, 0), 0);
        due("17 without rules", x.held(3, 2, 1), 0);
        Check.rules(x, BORDER);
        due("17 walls", x.held(2, 2, 0), 1);
        due("17 square", x.held(2, 2, 1), 0);
        // The bell in a corner is come to along the rim; the least wall on it holds the mouse.
        due("17 walls 3 by 3", x.held(3, 3, 0), 1);
        due("17 square 3 by 3", x.held(3, 3, 1), 0);
        // Up to a wall, then with the left hand on it: only on 3 by 3 can that wall be one
        // that hangs free and leads round without the bell: first the one below square 1.
        Check.rules(x, "if mode 0 bump do mode 1 right; if mode 0 do go;"
            + "if mode 2 bump do right; if mode 2 do go mode 1; do left mode 2;");
        for (int what = 0; what < 2; what++) {
            due("17 hand on the wall 2 by 2", x.held(2, 2, what), NEVER);
            due("17 hand on the wall 2 by 3", x.held(2, 3, what), NEVER);
            due("17 hand on the wall 3 by 2", x.held(3, 2, what), NEVER);
            due("17 hand on the wall 3 by 3", x.held(3, 3, what), what == 0 ? 128 : 4);
        }
        int[][] wrong = {{1, 2, 0}, {2, 1, 0}, {4, 2, 0}, {2, 4, 0}, {2, 2, 2}, {2, 2, -1}, {BIG, 2, 0}, {2, LOW, 0}};
        for (int[] at : wrong) {
            due("17 wrong", x.held(at[0], at[1], at[2]), NONE);
        }
        Check.rules(x, BORDER);
        due("17 by the new rules", x.held(2, 2, 0), 1);
        x.bell(0);
        x.wall(0, 1, true);
        due("17 the floor doesn't matter", x.held(2, 2, 0), 1);
        // Waits and then goes with its hand on the wall.
        String hand = "if mode 2 bump do right; if mode 2 do go mode 1; do left mode 2;";
        Check.rules(x, hand);
        int longest = x.longest(2, 2, 0);
        due("17 some ticks", longest > 3 && longest < 60, true);
        Check.rules(x, "if not count " + (100 - longest) + " do add;" + hand);
        due("17 100 ticks are enough", x.held(2, 2, 0), NEVER);
        int walls = x.longest(2, 2, 1);
        int square = x.longest(2, 2, 2);
        Check.rules(x, "if not count " + (101 - longest) + " do add;" + hand);
        due("17 101 ticks are too many", x.held(2, 2, 0), walls);
        due("17 101 ticks are too many", x.held(2, 2, 1), square);
    }

    private void longest() {
        RelayMouse x = new RelayMouse();
        due("18 without rules", x.longest(3, 3, 0), 0);
        due("18 without rules", x.longest(3, 3, 1), 0);
        due("18 without rules", x.longest(3, 3, 2), 8);
        Check.rules(x, BORDER);
        // From 2 on an open floor: go up, then as from 0: 1 + 4 ticks; a wall between 1 and 3 never lets it come.
        due("18 ticks", x.longest(2, 2, 0), 5);
        due("18 walls", x.longest(2, 2, 1), 0);
        due("18 square", x.longest(2, 2, 2), 2);
        Check.rules(x, "if count 99 do right right go; do add;");
        due("18 100 ticks", x.longest(2, 2, 0), 100);
        due("18 its walls", x.longest(2, 2, 1), 0);
        due("18 its square", x.longest(2, 2, 2), 1);
        due("18 1 by 1 steps", x.longest(2, 3, 2), 3);
        Check.rules(x, "if count 99 mode 1 do right right go; if count 99 do mode 1; do add;");
        due("18 101 are too many", x.longest(2, 2, 0), 0);
        int[][] wrong = {{1, 2, 0}, {2, 1, 0}, {4, 2, 0}, {2, 4, 0}, {2, 2, 3}, {2, 2, -1}, {BIG, 2, 0}, {2, LOW, 0}};
        for (int[] at : wrong) {
            due("18 wrong", x.longest(at[0], at[1], at[2]), NONE);
        }
    }

    private void needs() {
        RelayMouse x = new RelayMouse();
        due("19 without rules", x.needs(0, 3, 3), 0);
        Check.rules(x, "if yes 1 do right go; do set 1 set 2;");
        due("19 it needs 1", x.needs(1, 2, 2), 1);
        due("19 it needs 1", x.needs(1, 3, 3), 1);
        due("19 it needs no 2", x.needs(2, 2, 2), 0);
        due("19 it needs no 0", x.needs(0, 2, 2), 0);
        Check.rules(x, "if yes 1 do right go; do set 1 drop 1;");
        due("19 never held at a test", x.needs(1, 2, 3), 0);
        Check.rules(x, "if yes 1 do right go; if not yes 1 do set 1 right go; do go;");
        due("19 both do the same", x.needs(1, 3, 2), 0);
        Check.rules(x, "if yes 0 do set 1; do set 0;");
        due("19 nothing is seen of it", x.needs(0, 2, 2), 0);
        Check.rules(x, "if yes 0 bell do right; do set 0;");
        due("19 behind the run", x.needs(0, 2, 2), 0);
        Check.rules(x, "if yes 0 do left; do set 0;");
        due("19 only the heading", x.needs(0, 2, 2), 1);
        Check.rules(x, "if yes 0 do go; do set 0;");
        due("19 only the square", x.needs(0, 2, 2), 1);
        due("19 only the square", x.needs(0, 3, 3), 1);
        Check.rules(x, "if not count 98 do add; if yes 0 do left; do set 0;");
        due("19 behind tick 100", x.needs(0, 2, 2), 1);
        Check.rules(x, "if not count 99 do add; if yes 0 do left; do set 0;");
        due("19 behind tick 101", x.needs(0, 2, 2), 0);
        needsSomewhere(x);
        int[][] wrong = {{-1, 2, 2}, {3, 2, 2}, {0, 1, 2}, {0, 4, 2}, {0, 2, 1}, {0, 2, 4}, {BIG, 2, 2}, {0, LOW, BIG}};
        for (int[] at : wrong) {
            due("19 wrong", x.needs(at[0], at[1], at[2]), NONE);
        }
    }

    /** Rules that need a YES on some floors or from some squares alone. */
    private void needsSomewhere(RelayMouse x) {
        Check.rules(x, "if mode 0 do right go mode 1; if mode 1 not bump do set 0 mode 2; if mode 2 yes 0 do left;");
        for (int h = 2; h <= 3; h++) {
            due("19 two squares wide", x.needs(0, 2, h), 0);
            due("19 three squares wide", x.needs(0, 3, h), 1);
            due("19 two squares wide again", x.needs(0, 2, h), 0);
        }
        Check.rules(x, "if mode 0 do back go mode 1; if mode 1 not bump do set 0 mode 2; if mode 2 yes 0 do left;");
        for (int w = 2; w <= 3; w++) {
            due("19 two squares high", x.needs(0, w, 2), 0);
            due("19 three squares high", x.needs(0, w, 3), 1);
        }
        Check.rules(x, "if mode 0 do back mode 1; if mode 1 bump do back mode 2; if mode 2 bump do set 0 mode 3;"
            + "if mode 3 yes 0 do left;");
        due("19 only with a wall", x.needs(0, 2, 2), 1);
        Check.rules(x, "if mode 0 bump do right mode 6; if mode 6 bump do right mode 1;"
            + "if mode 1 not bump do right go mode 2; if mode 2 do back mode 7;"
            + "if mode 7 not bump do set 1 right go mode 3; if mode 3 not yes 1 do left mode 4;"
            + "if mode 4 not bump do set 0 mode 5; if mode 5 yes 0 do left;");
        due("19 only without any wall", x.needs(0, 2, 2), 1);
        Check.rules(x, "if mode 0 bump do left mode 1; if mode 1 bump do back mode 2; if mode 2 not bump do go mode 3;"
            + "if mode 3 do set 0 mode 4; if mode 4 yes 0 do left;");
        due("19 only from square 0", x.needs(0, 2, 2), 1);
        Check.rules(x, "if yes 0 do left; if bump count 3 do set 0; if bump do right add;");
        due("19 only from where one can't come", x.needs(0, 3, 3), 0);
    }

    private void knows() {
        RelayMouse x = on(3, 2);
        Check.rules(x, "do keep;");
        due("20 ways lead to a wall", x.knows(0), NONE);
        due("20 up and to a wall", x.knows(3), NONE);
        due("20 the bell", x.knows(5), 0);
        int[] ways = {1, 1, 2, 1, 0, 3};
        for (int square = 0; square < 6; square++) {
            x.lift(square, ways[square]);
            x.tick(1);
        }
        int[] due = {3, 2, 1, 4, 3, 0};
        for (int square = 0; square < 6; square++) {
            due("20 from " + square, x.knows(square), due[square]);
        }
        x.wall(1, 1, true);
        due("20 a wall on the way", x.knows(0), NONE);
        due("20 behind the wall", x.knows(2), 1);
        x.lift(1, 2);
        x.tick(1);
        due("20 round", x.knows(1), NONE);
        due("20 to a round", x.knows(0), NONE);
        x.bell(4);
        due("20 another bell", x.knows(0), 2);
        int[] wrong = {-1, 6, BIG, LOW};
        for (int square : wrong) {
            due("20 wrong " + square, x.knows(square), NONE);
        }
        // All squares of a floor in one row.
        x.floor(2, 2);
        int[] round = {1, 2, 0, 3};
        for (int square = 0; square < 4; square++) {
            x.lift(square, round[square]);
            x.tick(1);
        }
        x.bell(2);
        due("20 the longest way", x.knows(0), 3);
        due("20 from behind the bell", x.knows(3), 1);
    }

    private void pull() {
        RelayMouse x = on(2, 2);
        Check.net(x, "go = not bump;right = bump;");
        due("21 none", x.pull(0), 0);
        // Right and, since bump is as ahead of the tick, no go in the same tick.
        due("21 turns", x.pull(1), 0);
        mouseIs("21 turned", x, 0, 1);
        due("21 goes", x.pull(1), 1);
        due("21 the bell is no end", x.pull(8), 4);
        mouseIs("21 round", x, 1, 1);
        due("21 below 0", x.pull(-1), NONE);
        due("21 too many", x.pull(5001), NONE);
        due("21 least", x.pull(LOW), NONE);
        due("21 most", x.pull(5000), 2500);
        Check.net(x, "keep = bump; left = bump; right = bump; go = bump;");
        x.lift(0, 0);
        x.pull(1);
        mouseIs("21 left and right, then to the wall", x, 0, 0);
        Check.net(x, "keep = bump; left = bump; go = bump;");
        x.lift(1, 0);
        due("21 left and go in one tick", x.pull(1), 1);
        mouseIs("21 left and gone", x, 0, 3);
        x.lift(3, 1);
        due("21 keep is ahead of left", x.pull(1), 1);
        due("21 keep is ahead of left", x.look(3, 0), 1);
        mouseIs("21 left and gone up", x, 1, 0);
        x.lift(2, 2);
        Check.net(x, "keep = bump; right = bump and not one and not two;");
        x.pull(1);
        due("21 way 2", x.look(2, 0), 2);
        mouseIs("21 one and two are as ahead of the tick", x, 2, 3);
        ways(x);
        Check.net(x, "right = bell;");
        x.lift(3, 0);
        x.pull(1);
        mouseIs("21 bell", x, 3, 1);
        Check.net(x, "right = a;relay a = b;relay b = bell;");
        x.pull(1);
        mouseIs("21 all at once: not yet", x, 3, 1);
        due("21 the first relay follows", x.relays(), 2);
        x.pull(1);
        mouseIs("21 all at once: now", x, 3, 2);
        due("21 mouse(4) is of rules", x.mouse(4), 0);
    }

    /** One and two of each way. */
    private void ways(RelayMouse x) {
        for (int way = 0; way < 4; way++) {
            Check.rules(x, "do keep;");
            x.lift(0, way);
            x.tick(1);
            Check.net(x, "relay a = one;relay b = two;");
            x.pull(1);
            due("21 one, two of way " + way, x.relays(), way);
        }
    }

    private void pullRun() {
        RelayMouse x = on(2, 2);
        Check.net(x, BORDER_NET);
        due("22 none", x.pullRun(0), NEVER);
        due("22 three are done", x.pullRun(3), NEVER);
        mouseIs("22 behind three", x, 1, 2);
        due("22 just in time", x.pullRun(1), 1);
        mouseIs("22 there", x, 3, 2);
        due("22 it is there", x.pullRun(5000), 0);
        due("22 it is there", x.pullRun(0), 0);
        due("22 below 0", x.pullRun(-1), NONE);
        due("22 too many", x.pullRun(5001), NONE);
        due("22 least", x.pullRun(LOW), NONE);
        Check.net(x, "right = bump or not bump;");
        x.lift(0, 0);
        due("22 never", x.pullRun(4999), NEVER);
        mouseIs("22 all were done", x, 0, 3);
    }

    private void relays() {
        RelayMouse x = new RelayMouse();
        StringBuilder text = new StringBuilder();
        for (int i = 0; i < 20; i++) {
            text.append("relay ").append((char) ('a' + i)).append("=not bump;");
        }
        due("23 twenty relays", Check.net(x, text.toString()), 20);
        due("23 none holds at first", x.relays(), 0);
        x.pull(1);
        due("23 none at a wall", x.relays(), 0);
        x.lift(0, 1);
        x.pull(1);
        due("23 all", x.relays(), (1 << 20) - 1);
        Check.net(x, "relay a = not a; relay b = a and not b or b and not a;"
            + "relay c = a and b and not c or c and not (a and b);");
        for (int i = 1; i <= 20; i++) {
            x.pull(1);
            due("23 counts in twos " + i, x.relays(), i & 7);
        }
        logic(x);
    }

    /** What and, or, not and brackets come to. */
    private void logic(RelayMouse x) {
        String[] texts = {"t and t", "t and f", "f and t", "f or t", "f or f", "t or t and f", "(t or t) and f",
            "f and f or t", "f and (f or t)", "not f and f", "not (f and f)", "not not t", "not not not t",
            "not t or t", "not (t or t)", "t and not f and t", "f or not t or not f and t", "((((((((t))))))))",
            "not (not (t and f) and f) and (f or t and (t or f))"};
        boolean[] due = {true, false, false, true, false, true, false, true, false, false, true, true, false, true,
            false, true, true, true, true};
        for (int i = 0; i < texts.length; i++) {
            Check.net(x, "relay t = t or not t; relay f = f and not f; relay r = " + texts[i] + ";");
            x.pull(2);
            due("23 " + texts[i], x.relays() >> 2, due[i] ? 1 : 0);
        }
    }

    private void race() {
        RelayMouse x = on(2, 2);
        Check.net(x, "relay a = not b; relay b = not a;");
        due("24 no tick", x.race(), NONE);
        x.pull(0);
        due("24 no tick", x.race(), NONE);
        x.pull(1);
        due("24 both ways round: the lesser number", x.race(), 1);
        x.stick(0, 0);
        due("24 stick is no tick", x.race(), 1);
        x.pull(1);
        due("24 a stuck one doesn't change", x.race(), NONE);
        Check.net(x, "relay a = not a; relay b = not a;");
        due("24 no tick since the net was told", x.race(), NONE);
        x.pull(1);
        due("24 b wouldn't, if a had", x.race(), 32);
        x.lift(3, 0);
        x.pullRun(5);
        due("24 a run of no tick", x.race(), 32);
        x.wipe();
        x.floor(3, 3);
        due("24 still the latest tick", x.race(), 32);
        x.pull(1);
        due("24 again", x.race(), 32);
        Check.net(x, "relay a = not b; relay b = not b;");
        x.pullRun(1);
        due("24 a wouldn't, if b had; by a run", x.race(), 1);
        Check.net(x, "relay a = bump or a; relay b = bump or b; relay c = not d; relay d = not c; relay e = not c;");
        x.pullRun(1);
        due("24 the lesser relay first, then the other", x.race(), 32 * 2 + 3);
        Check.net(x, "relay a = not a; relay b = not b; relay c = not b; relay d = not a;");
        x.pull(1);
        due("24 the pair of 0 and 3 is ahead of that of 1 and 2", x.race(), 32 * 3);
        Check.net(x, "relay a = not bump; relay b = a; relay c = not a and bump;");
        x.pull(1);
        due("24 one that changes alone", x.race(), NONE);
        x.same(5);
        x.suspects(5, 0);
        due("24 what is only tried is no tick", x.race(), NONE);
        due("24 what is only tried leaves relays", x.relays(), 4);
        StringBuilder text = new StringBuilder();
        for (int i = 0; i < 18; i++) {
            text.append("relay ").append((char) ('a' + i)).append("=bell;");
        }
        Check.net(x, text + "relay y = not z; relay z = not z;");
        x.pull(1);
        due("24 relays 18 and 19", x.race(), 32 * 18 + 19);
    }

    private void stick() {
        RelayMouse x = on(2, 2);
        due("25 no relay", x.stick(0, 0), false);
        Check.net(x, "relay a = not a; relay b = a; go = b;");
        due("25 held", x.stick(0, 1), true);
        due("25 at once", x.relays(), 1);
        x.pull(3);
        due("25 always", x.relays(), 3);
        x.wipe();
        due("25 wiped, but stuck", x.relays(), 1);
        due("25 not held", x.stick(1, 0), true);
        x.pull(2);
        due("25 always", x.relays(), 1);
        due("25 the other way", x.stick(0, 0), true);
        due("25 at once", x.relays(), 0);
        due("25 no more", x.stick(0, 2), true);
        due("25 it is as it was", x.relays(), 0);
        x.pull(1);
        due("25 free", x.relays(), 1);
        due("25 free again is so", x.stick(0, 2), true);
        int[][] wrong = {{-1, 0}, {2, 0}, {0, -1}, {0, 3}, {BIG, 1}, {LOW, 1}, {32, 1}, {0, BIG}};
        for (int[] at : wrong) {
            due("25 wrong " + at[0] + " " + at[1], x.stick(at[0], at[1]), false);
        }
        due("25 nothing changed", x.stuck(), 2);
        due("25 outputs by stuck relays", x.stick(1, 1), true);
        x.lift(0, 1);
        due("25 goes", x.pull(1), 1);
    }

    private void stuck() {
        RelayMouse x = on(2, 2);
        Check.net(x, "relay a = a; relay b = b; relay c = c;");
        due("26 none", x.stuck(), 0);
        x.stick(2, 0);
        x.stick(0, 1);
        due("26 0 and 2", x.stuck(), 5);
        x.stick(2, 2);
        due("26 0", x.stuck(), 1);
        x.keep(0);
        x.stick(0, 2);
        x.restore(0);
        due("26 no part of an image", x.stuck(), 0);
        due("26 but what holds is", x.relays(), 1);
    }

    private void same() {
        RelayMouse x = on(3, 3);
        due("27 neither does anything", x.same(500), 0);
        Check.rules(x, BORDER);
        due("27 the first tick", x.same(1), 1);
        // Rules right at a wall, else keep and go; a net likewise without a relay.
        Check.net(x, "right = bump; go = not bump; keep = not bump;");
        due("27 alike", x.same(500), 0);
        Check.net(x, "right = bump; go = not bump;");
        due("27 a way: one tick to turn", x.same(1), 0);
        due("27 a way: differs behind the second", x.same(2), 2);
        due("27 later", x.same(500), 2);
        Check.net(x, "right = bump; go = not bump; keep = bump;");
        due("27 way 0 is kept where it is 0", x.same(1), 0);
        Check.net(x, "relay a = not a; right = bump and not a or bump and a; go = not bump; keep = not bump;");
        x.pull(1);
        x.lift(0, 0);
        due("27 no relay held", x.same(20), 0);
        Check.net(x, "relay a = a or bell; right = bump and not a; go = not bump; keep = not bump;");
        due("27 alike till the bell", x.same(4), 0);
        x.stick(0, 1);
        due("27 stuck ones as they are", x.same(4), 1);
        x.stick(0, 2);
        x.lift(2, 2);
        due("27 from the mouse as it is", x.same(2), 0);
        due("27 stands at the bell and its wall", x.same(3), 3);
        Check.rules(x, "do go;");
        Check.net(x, "");
        x.lift(3, 1);
        due("27 the square alone", x.same(9), 1);
        x.lift(5, 1);
        due("27 nor that at the rim", x.same(9), 0);
        Check.rules(x, "do right;");
        due("27 the heading alone", x.same(9), 1);
        Check.rules(x, "do right keep left;");
        due("27 a way alone", x.same(9), 1);
        Check.rules(x, "if mode 1 do left; do right;");
        Check.net(x, "right = bump or not bump;");
        due("27 mode as it is", x.same(9), 0);
        Check.rules(x, "do mode 1;");
        x.tick(1);
        Check.rules(x, "if mode 1 do left; do right;");
        due("27 mode as it is", x.same(9), 1);
        int[] wrong = {0, -1, 501, BIG, LOW};
        for (int t : wrong) {
            due("27 wrong " + t, x.same(t), NONE);
        }
    }

    private void suspects() {
        RelayMouse x = on(3, 3);
        due("28 no net", x.suspects(5, 0), 0);
        Check.net(x, "relay a = bump; relay b = bump; relay c = bell; right = a and b; go = not bump;");
        due("28 none stuck", x.suspects(500, 0), 0);
        due("28 none stuck", x.suspects(500, 1), 0);
        x.stick(0, 0);
        due("28 either of two not held", x.suspects(10, 0), 3);
        due("28 none held", x.suspects(10, 1), 0);
        x.stick(0, 2);
        x.stick(2, 1);
        due("28 it does as with none stuck", x.suspects(10, 0), 0);
        due("28 it does as with none stuck", x.suspects(10, 1), 0);
        x.stick(2, 2);
        x.stick(0, 1);
        // a held: right is b, so it does as before.
        due("28 it does as with none stuck", x.suspects(10, 1), 0);
        x.stick(1, 1);
        due("28 both held: no single one", x.suspects(10, 1), 0);
        due("28 both held: no single one", x.suspects(10, 0), 0);
        Check.net(x, "relay a = bump; relay b = not a; right = not b; go = not bump and b;");
        x.stick(0, 1);
        x.lift(0, 0);
        int[] wrong = {0, -1, 501, BIG, LOW};
        for (int t : wrong) {
            due("28 wrong t " + t, x.suspects(t, 0), NONE);
        }
        due("28 wrong what", x.suspects(5, 2), NONE);
        due("28 wrong what", x.suspects(5, -1), NONE);
        // Held relays now don't count: each tries from none held.
        Check.net(x, "relay a = a; relay b = b; right = a; left = b;");
        x.stick(0, 1);
        x.stick(0, 2);
        due("28 a holds", x.relays(), 1);
        due("28 none stuck", x.suspects(5, 1), 0);
        x.stick(1, 1);
        due("28 from none held: just b", x.suspects(5, 1), 2);
        Check.net(x, "relay a = bump; relay b = bump; keep = a; right = a or b;");
        x.lift(0, 3);
        x.stick(0, 0);
        due("28 ways don't count", x.suspects(9, 0), 0);
        due("28 ways don't count", x.suspects(1, 1), 0);
        Check.net(x, "relay a = bell; relay b = not bell; go = a; left = not b;");
        x.lift(3, 1);
        x.stick(0, 1);
        due("28 the square alone", x.suspects(1, 1), 1);
        x.stick(0, 2);
        x.stick(1, 0);
        due("28 the heading alone", x.suspects(1, 0), 2);
        due("28 the heading alone", x.suspects(1, 1), 0);
    }

    private void trial() {
        RelayMouse x = on(3, 2);
        due("29 no net", x.trial(5, 0), NONE);
        // With either of the two not held it never goes, whatever walls stand.
        Check.net(x, "relay a = not bump; relay b = not bump or b; go = a and b;");
        x.lift(0, 1);
        x.stick(0, 0);
        due("29 two suspects", x.suspects(3, 0), 3);
        due("29 no other wall tells them apart", x.trial(3, 1), 2);
        due("29 the least number", x.trial(3, 0), 0);
        x.stick(0, 2);
        due("29 no suspects", x.trial(3, 0), NONE);
        due("29 no suspects", x.trial(3, 1), NONE);
        Check.net(x, "relay a = bell; relay b = bump and b; relay c = bell;"
            + "go = not bump; right = a or b; left = c;");
        x.lift(3, 1);
        x.stick(0, 1);
        due("29 a or b held", x.suspects(3, 1), 3);
        due("29 walls leave both", x.trial(3, 1), 2);
        wallTells();
        int[] wrong = {0, -1, 501, BIG, LOW};
        for (int t : wrong) {
            due("29 wrong t " + t, x.trial(t, 0), NONE);
        }
        due("29 wrong what", x.trial(5, 2), NONE);
        due("29 wrong what", x.trial(5, -1), NONE);
    }

    /** Two stuck relays that do alike till the mouse meets a wall. */
    private void wallTells() {
        RelayMouse x = on(3, 2);
        Check.net(x, "relay a = bell; relay b = bell; keep = a or b; right = a or b and not bump; go = bump and b;");
        x.lift(0, 1);
        x.stick(0, 1);
        due("29 alike for one tick", x.suspects(1, 1), 3);
        // Wall 0 stands between 0 and 1, right ahead of the mouse.
        due("29 the wall ahead", x.trial(1, 0), 0);
        due("29 one is left", x.trial(1, 1), 1);
        x.lift(4, 0);
        due("29 alike for one tick", x.suspects(1, 1), 3);
        // Numbers: 0, 1 in the upper row, 2, 3 in the lower one, then 4, 5, 6 below 0, 1, 2.
        due("29 the wall above 4", x.trial(1, 0), 5);
        due("29 one is left", x.trial(1, 1), 1);
        x.wall(4, 0, true);
        due("29 now they differ", x.suspects(1, 1), 1);
        due("29 fewer than two", x.trial(1, 0), NONE);
        Check.net(x, "relay a = bell; relay b = bell; right = a or b and bump; go = b and not bump;");
        x.stick(1, 1);
        x.stick(0, 2);
        due("29 alike at a wall", x.suspects(1, 1), 3);
        due("29 a wall that stands is taken away", x.trial(1, 0), 5);
        due("29 one is left", x.trial(1, 1), 1);
        due("29 all is as it was", x.look(4, 2), 5);
        x.bell(1);
        int[][] rim = {{3, 2}, {5, 2}, {5, 1}, {2, 1}, {0, 0}, {3, 3}};
        for (int[] at : rim) {
            x.lift(at[0], at[1]);
            due("29 alike at the rim", x.suspects(1, 1), 3);
            due("29 the rim can't be moved", x.trial(1, 0), 0);
            due("29 two are left", x.trial(1, 1), 2);
        }
    }

    private void keep() {
        RelayMouse x = on(2, 2);
        int[] wrong = {-1, 4, BIG, LOW};
        for (int k : wrong) {
            due("30 wrong " + k, x.keep(k), false);
        }
        due("30 none", x.count(6), 0);
        for (int k = 0; k < 4; k++) {
            x.lift(k, k);
            due("30 keep " + k, x.keep(k), true);
            due("30 images", x.count(6), k + 1);
        }
        for (int k = 0; k < 4; k++) {
            x.restore(k);
            mouseIs("30 image " + k, x, k, k);
        }
        x.lift(2, 0);
        due("30 keep once more", x.keep(1), true);
        due("30 images", x.count(6), 4);
        x.restore(0);
        x.restore(1);
        mouseIs("30 the later one", x, 2, 0);
    }

    private void restore() {
        RelayMouse x = on(3, 3);
        Check.rules(x, "do mode 6 add right keep set 1 go;");
        Check.net(x, "relay a = not a; relay b = b;");
        x.tick(2);
        x.pull(1);
        x.wall(0, 2, true);
        x.bell(5);
        x.keep(0);
        x.tick(3);
        x.pull(1);
        x.wall(0, 2, false);
        x.wall(4, 1, true);
        x.bell(7);
        x.wipe();
        due("31 restore", x.restore(0), true);
        mouseIs("31 the mouse", x, 4, 2);
        due("31 mode", x.mouse(2), 6);
        due("31 count", x.mouse(3), 2);
        due("31 way", x.look(0, 0), 1);
        due("31 way", x.look(1, 0), 2);
        due("31 yes", x.look(1, 1), 2);
        due("31 yes", x.look(4, 1), 0);
        due("31 walls", x.count(4), 1);
        due("31 wall", x.look(0, 2), 13);
        due("31 bell", x.count(5), 5);
        due("31 relays", x.relays(), 1);
        due("31 images stay", x.count(6), 1);
        x.lift(8, 0);
        due("31 once more", x.restore(0), true);
        mouseIs("31 once more", x, 4, 2);
        x.stick(0, 0);
        x.stick(1, 1);
        x.restore(0);
        due("31 stuck is stuck", x.relays(), 2);
        int[] wrong = {-1, 1, 2, 3, 4, BIG, LOW};
        for (int k : wrong) {
            due("31 wrong " + k, x.restore(k), false);
        }
        Check.rules(x, "do right;");
        x.tick(1);
        x.restore(0);
        due("31 the latest line stays", x.mouse(4), 0);
        Check.rules(x, "do left;");
        x.restore(0);
        due("31 no line since", x.mouse(4), NONE);
    }

    private void count() {
        RelayMouse x = on(6, 4);
        Check.rules(x, "do go;do left;do right;");
        Check.net(x, "relay a = (not b); relay b = a and (bump or bell); go = one or two;");
        x.wall(0, 1, true);
        x.wall(6, 0, true);
        x.bell(9);
        x.keep(3);
        int[] due = {24, 3, 2, 10, 2, 9, 1};
        for (int what = 0; what < due.length; what++) {
            due("32 count " + what, x.count(what), due[what]);
        }
        int[] wrong = {-1, 7, BIG, LOW};
        for (int what : wrong) {
            due("32 wrong " + what, x.count(what), NONE);
        }
    }

    /** Questions leave all as it was. */
    private void allIsAsItWas() {
        RelayMouse x = on(3, 3);
        Check.rules(x, "if yes 0 bump do right mode 2; if yes 0 do go add; do keep set 0 right;");
        Check.net(x, "relay a = bump and not b; relay b = a or not bump; go = b; left = a; keep = b;");
        x.wall(4, 1, true);
        x.tick(7);
        x.pull(3);
        x.stick(0, 1);
        x.keep(1);
        int[] before = state(x);
        x.comes(0);
        x.second(2, 3);
        x.held(3, 3, 0);
        x.longest(3, 3, 0);
        x.needs(0, 3, 3);
        x.knows(0);
        x.same(50);
        x.suspects(50, 0);
        x.trial(50, 0);
        x.keep(1);
        int[] behind = state(x);
        for (int i = 0; i < before.length; i++) {
            due("all is as it was: " + i, behind[i], before[i]);
        }
    }

    private static int[] state(RelayMouse x) {
        int[] all = new int[60];
        int n = 0;
        for (int what = 0; what < 5; what++) {
            all[n++] = x.mouse(what);
        }
        for (int what = 0; what < 7; what++) {
            all[n++] = x.count(what);
        }
        for (int square = 0; square < 9; square++) {
            for (int what = 0; what < 4; what++) {
                all[n++] = x.look(square, what);
            }
        }
        all[n++] = x.relays();
        all[n++] = x.stuck();
        all[n++] = x.race();
        all[n++] = x.fault(0);
        all[n++] = x.fault(1);
        return all;
    }
}
