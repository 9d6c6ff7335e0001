/**
 * Each limit that the document's "Terms" name, by a test of its own: the last value that is allowed and
 * the first that isn't, empty and full, round and at the rim. Limits within texts are in FaultsTest,
 * refused calls in RefusedTest.
 */
public final class LimitsTest {
    private static final int NONE = RelayMouse.NONE;
    private static final int NEVER = RelayMouse.NEVER;

    private final Check check = new Check("LimitsTest");

    public static void main(String[] args) {
        LimitsTest test = new LimitsTest();
        test.calls();
        test.sizes();
        test.around();
        test.neighbours();
        test.atFirst();
        test.turns();
        test.waysKeptAndFaced();
        test.goes();
        test.yeses();
        test.modes();
        test.counts();
        test.wipes();
        test.tapes();
        test.ticks();
        test.runs();
        test.longRuns();
        test.pullRuns();
        test.fars();
        test.knows();
        test.comes();
        test.seconds();
        test.shortRuns();
        test.smallSizes();
        test.sizesInAnyRow();
        test.wallNumbers();
        test.sames();
        test.suspects();
        test.trials();
        test.wallsMovedAlone();
        test.sticks();
        test.races();
        test.images();
        test.counting();
        test.check.end();
    }

    private void due(String call, long got, long want) {
        check.due(call, got, want);
    }

    private void due(String call, boolean got, boolean want) {
        check.due(call, got, want);
    }

    private static RelayMouse on(int w, int h) {
        RelayMouse x = new RelayMouse();
        x.floor(w, h);
        return x;
    }

    private static RelayMouse on(int w, int h, String rules) {
        RelayMouse x = on(w, h);
        Check.rules(x, rules);
        return x;
    }

    /** "An object is used for at most 512 calls": the 512th is still answered. */
    private void calls() {
        RelayMouse x = new RelayMouse();
        x.feed(Check.four("do r", 0), Check.four("ight", 0), Check.four(" add", 0), Check.four("; ", 0), 0);
        x.rules(14);
        for (int call = 3; call <= 511; call++) {
            due("call " + call, x.tick(1), 1);
        }
        due("call 512", x.mouse(1), 509 % 4);
        RelayMouse y = new RelayMouse();
        for (int call = 1; call <= 511; call++) {
            due("call " + call, y.comes(0), 24);
        }
        due("call 512", y.comes(1), 0);
    }

    /** "W by H SQUARES (2 .. 6 each; 5 by 5 at first)". */
    private void sizes() {
        due("5 by 5", new RelayMouse().count(0), 25);
        for (int w = 0; w <= 8; w++) {
            for (int h = 0; h <= 8; h++) {
                boolean allowed = w >= 2 && w <= 6 && h >= 2 && h <= 6;
                RelayMouse x = on(3, 2);
                due("floor " + w + " " + h, x.floor(w, h), allowed);
                due("squares " + w + " " + h, x.count(0), allowed ? w * h : 6);
                due("bell " + w + " " + h, x.count(5), allowed ? w * h - 1 : 5);
            }
        }
    }

    private static int rimOf(int square, int w, int h) {
        return (square < w ? 1 : 0) + (square % w == w - 1 ? 2 : 0) + (square / w == h - 1 ? 4 : 0)
            + (square % w == 0 ? 8 : 0);
    }

    /** "around the FLOOR WALLS always stand". */
    private void around() {
        for (int w = 2; w <= 6; w++) {
            for (int h = 2; h <= 6; h++) {
                RelayMouse x = on(w, h);
                for (int square = 0; square < w * h; square++) {
                    int rim = rimOf(square, w, h);
                    for (int side = 0; side < 4; side++) {
                        if ((rim >> side & 1) != 0) {
                            due("rim of " + w + " " + h, x.wall(square, side, false), false);
                            due("rim of " + w + " " + h, x.wall(square, side, true), false);
                        }
                    }
                    due("walls of " + square + " on " + w + " " + h, x.look(square, 2), rim);
                }
            }
        }
    }

    /** "numbered by rows from the top. SIDES: 0 up, 1 right, 2 down, 3 left." */
    private void neighbours() {
        for (int w = 2; w <= 6; w++) {
            for (int h = 2; h <= 6; h++) {
                RelayMouse x = on(w, h, "do go;");
                int[] strides = {-w, 1, w, -1};
                int walls = 0;
                for (int square = 0; square < w * h; square++) {
                    int rim = rimOf(square, w, h);
                    for (int side = 0; side < 4; side++) {
                        boolean free = (rim >> side & 1) == 0;
                        x.lift(square, side);
                        x.tick(1);
                        due("from " + square + " to side " + side, x.mouse(0), square + (free ? strides[side] : 0));
                        if (free && (side == 1 || side == 2)) {
                            due("a wall there", x.wall(square, side, true), true);
                            walls++;
                            due("seen from beyond", x.wall(square + strides[side], (side + 2) % 4, true), false);
                        }
                    }
                    // Go back is free: all walls are taken away, each from beyond.
                    for (int side = 1; side < 3; side++) {
                        if ((rim >> side & 1) == 0) {
                            due("and away", x.wall(square + strides[side], (side + 2) % 4, false), true);
                        }
                    }
                }
                due("no walls are left", x.count(4), 0);
                due("how many there were", walls, h * (w - 1) + w * (h - 1));
            }
        }
    }

    /** Another FLOOR is as at first, whatever was there; a larger one behind a smaller one, too. */
    private void atFirst() {
        RelayMouse x = on(2, 2, "do keep set 0 set 1 set 2 right go mode 9 add;");
        int[][] sizes = {{6, 6}, {2, 2}, {6, 2}, {2, 6}, {6, 6}, {3, 5}};
        for (int[] size : sizes) {
            x.tick(30);
            for (int square = 0; square < x.count(0); square++) {
                x.lift(square, 3);
                x.tick(1);
                for (int side = 0; side < 4; side++) {
                    x.wall(square, side, true);
                }
            }
            x.bell(1);
            x.lift(2, 3);
            x.floor(size[0], size[1]);
            for (int square = 0; square < size[0] * size[1]; square++) {
                due("way at first", x.look(square, 0), 0);
                due("yeses at first", x.look(square, 1), 0);
                due("walls at first", x.look(square, 2), rimOf(square, size[0], size[1]));
            }
            due("bell at first", x.count(5), size[0] * size[1] - 1);
            int[] mouse = {0, 0, 0, 0, NONE};
            for (int what = 0; what < mouse.length; what++) {
                due("mouse at first " + what, x.mouse(what), mouse[what]);
            }
        }
    }

    /** "right: HEADING is the next SIDE (round), left: the one ahead of it, back: two on". */
    private void turns() {
        String[] acts = {"right", "back", "left"};
        for (int heading = 0; heading < 4; heading++) {
            for (int i = 0; i < acts.length; i++) {
                RelayMouse x = on(2, 2, "do " + acts[i] + ";");
                x.lift(0, heading);
                x.tick(1);
                due(acts[i] + " from " + heading, x.mouse(1), (heading + i + 1) % 4);
            }
            RelayMouse x = on(2, 2);
            Check.net(x, "left = one or not one;");
            x.lift(3, heading);
            x.pull(1);
            due("left by a net from " + heading, x.mouse(1), (heading + 3) % 4);
            Check.net(x, "right = one or not one;");
            x.lift(3, heading);
            x.pull(1);
            due("right by a net from " + heading, x.mouse(1), (heading + 1) % 4);
        }
    }

    /** "face: HEADING is the SQUARE's WAY; keep: WAY is HEADING". */
    private void waysKeptAndFaced() {
        RelayMouse x = on(6, 6);
        for (int square : new int[] {0, 31, 32, 35}) {
            for (int way = 0; way < 4; way++) {
                for (int heading = 0; heading < 4; heading++) {
                    Check.rules(x, "do keep;");
                    x.lift(square, way);
                    x.tick(1);
                    x.lift(square, heading);
                    Check.rules(x, "if way do mode 1; do mode 2;");
                    x.tick(1);
                    due("way is heading", x.mouse(2), way == heading ? 1 : 2);
                    Check.rules(x, "do face;");
                    x.tick(1);
                    due("face way", x.mouse(1), way);
                    due("way stays", x.look(square, 0), way);
                }
            }
            due("other ways stay", x.look(square == 0 ? 1 : square - 1, 0), square == 32 ? 3 : 0);
        }
    }

    /** "go: it goes to the SQUARE ahead, if no WALL stands there (else nothing)". */
    private void goes() {
        RelayMouse x = on(2, 2, "do go;");
        int[][] corners = {{0, 0}, {0, 3}, {1, 0}, {1, 1}, {2, 2}, {2, 3}, {3, 1}, {3, 2}};
        for (int[] at : corners) {
            x.lift(at[0], at[1]);
            due("a line is done", x.tick(1), 1);
            due("it stays at the rim", x.mouse(0), at[0]);
            due("and its heading", x.mouse(1), at[1]);
        }
        x.wall(0, 1, true);
        x.lift(1, 3);
        x.tick(1);
        due("it stays at a wall from beyond", x.mouse(0), 1);
        x.wall(0, 1, false);
        x.tick(1);
        due("it goes without it", x.mouse(0), 0);
        due("no goes at the rim", x.second(3, 2), 0);
    }

    /** "set N, drop N: YES N (0 .. 2) of its SQUARE is held, or not". */
    private void yeses() {
        for (int yes = 0; yes <= 2; yes++) {
            RelayMouse x = on(6, 6, "do set " + yes + ";");
            for (int square : new int[] {0, 35, 32, 31}) {
                x.lift(square, 0);
                x.tick(2);
                due("set twice is held", x.look(square, 1), 1 << yes);
            }
            Check.rules(x, "do drop " + yes + ";");
            x.tick(2);
            due("dropped twice is not", x.look(31, 1), 0);
            due("elsewhere it is held", x.look(32, 1), 1 << yes);
            due("elsewhere it is held", x.look(0, 1), 1 << yes);
        }
        due("set 3 is none", Check.rules(new RelayMouse(), "do set 3;"), NONE);
        due("drop 3 is none", Check.rules(new RelayMouse(), "do drop 3;"), NONE);
        due("yes 3 is none", Check.rules(new RelayMouse(), "if yes 3 do go;"), NONE);
    }

    /** "a MODE 0 .. 9 (0)". */
    private void modes() {
        for (int mode = 0; mode <= 9; mode++) {
            RelayMouse x = on(2, 2, "do mode " + mode + ";");
            due("mode at first", x.mouse(2), 0);
            x.tick(1);
            due("mode " + mode, x.mouse(2), mode);
            due("a test of it", Check.rules(x, "if mode " + mode + " do go;"), 1);
            due("it holds", x.tick(1), 1);
        }
        due("mode 10 is none", Check.rules(new RelayMouse(), "do mode 10;"), NONE);
        due("nor for a test", Check.rules(new RelayMouse(), "if mode 10 do go;"), NONE);
    }

    /** "a COUNT 0 .. 99", "add: COUNT one more (99 at most)", "count N: COUNT is N at least (N 0 .. 99)". */
    private void counts() {
        RelayMouse x = on(2, 2, "do add;");
        x.tick(98);
        due("98", x.mouse(3), 98);
        x.tick(1);
        due("99", x.mouse(3), 99);
        x.tick(1);
        due("99 at most", x.mouse(3), 99);
        Check.rules(x, "if not count 99 do go; do zero;");
        x.tick(1);
        due("at 99 count 99 holds", x.mouse(4), 1);
        due("zero", x.mouse(3), 0);
        Check.rules(x, "do zero;");
        x.tick(1);
        due("zero at 0", x.mouse(3), 0);
        Check.rules(x, "if not count 0 do go; if count 1 do go; do add;");
        x.tick(1);
        due("at 0 count 0 holds, and no more", x.mouse(4), 2);
        due("1", x.mouse(3), 1);
        x.tick(1);
        due("at 1 count 1 holds", x.mouse(4), 1);
        Check.rules(x, "do zero add add add add add add add add add add add;");
        x.tick(9);
        due("11", x.mouse(3), 11);
        for (int n = 0; n <= 99; n++) {
            Check.rules(x, "if count " + n + " do keep;");
            due("count " + n + " at 11", x.tick(1), n <= 11 ? 1 : 0);
            Check.rules(x, "if not count " + n + " do keep;");
            due("not count " + n + " at 11", x.tick(1), n <= 11 ? 0 : 1);
        }
        due("count 100 is none", Check.rules(x, "if count 100 do go;"), NONE);
        Check.rules(x, "do add add add add add add add add add add add add;");
        x.tick(7);
        due("95 of 11", x.mouse(3), 95);
        x.tick(1);
        due("99 at most within a line", x.mouse(3), 99);
    }

    /** "wipe: all WAYS 0, no YES held", and wipe() answers "how many SQUARES had a WAY other than 0 or a YES". */
    private void wipes() {
        RelayMouse x = on(6, 6);
        due("nothing to wipe", x.wipe(), 0);
        String[] marks = {"do keep;", "do set 0;", "do set 1;", "do set 2;", "do keep set 0 set 1 set 2;"};
        for (String mark : marks) {
            Check.rules(x, mark);
            for (int square = 0; square < 36; square++) {
                x.lift(square, 1 + square % 3);
                x.tick(1);
            }
            due("all squares by " + mark, x.wipe(), 36);
            due("none more", x.wipe(), 0);
            x.lift(35, 2);
            x.tick(1);
            due("the last square by " + mark, x.wipe(), 1);
            x.lift(0, 3);
            x.tick(1);
            due("the first square by " + mark, x.wipe(), 1);
        }
        Check.rules(x, "do keep;");
        x.lift(0, 0);
        x.tick(1);
        due("a way 0 is none", x.wipe(), 0);
        Check.rules(x, "do set 0 drop 0;");
        x.tick(1);
        due("a yes dropped is none", x.wipe(), 0);
        Check.rules(x, "if mode 0 do set 2 keep go mode 1; do wipe;");
        x.lift(3, 1);
        x.tick(2);
        due("wiped by an act", x.wipe(), 0);
        Check.rules(x, "do mode 9 add keep set 0;");
        Check.net(x, "relay a = not a; relay b = bump; relay c = not bump;");
        x.lift(7, 3);
        x.tick(1);
        x.pull(1);
        due("a and c hold", x.relays(), 5);
        due("one square", x.wipe(), 1);
        due("no mode", x.mouse(2), 0);
        due("no count", x.mouse(3), 0);
        due("no relay", x.relays(), 0);
        due("the mouse stays", x.mouse(0), 7);
        due("its heading stays", x.mouse(1), 3);
    }

    /** "NONE, and none come, if it would have more than 500"; "The TAPE's first n bytes". */
    private void tapes() {
        RelayMouse x = new RelayMouse();
        int blanks = Check.four("", 0);
        for (int fed = 20; fed <= 500; fed += 20) {
            due("feed", x.feed(blanks, blanks, blanks, blanks, blanks), fed);
        }
        due("full", x.feed(0, 0, 0, 0, 0), NONE);
        due("501 are not there", x.rules(501), -2);
        due("501 are not there", x.net(501), -2);
        due("500 are", x.net(500), 0);
        due("empty", x.net(1), -2);
        due("empty", x.rules(1), -2);
        due("0 are always there", x.rules(0), 0);
        due("0 are always there", x.net(0), 0);
        // A text of just 500 bytes.
        String text = "do go;" + " ".repeat(486) + "do left;";
        due("500 bytes", text.length(), 500);
        due("two lines at both ends", Check.rules(x, text), 2);
        due("the last byte counts", Check.rules(x, text.substring(0, 499) + "x"), NONE);
        due("its place is the length", x.fault(1), 492 + 3);
        due("more must come", Check.rules(x, text.substring(0, 499) + " "), NONE);
        due("its place is the length", x.fault(1), 500);
        Check.feed(x, "do go;do left; ");
        due("19 of 20", x.rules(13), NONE);
        due("the length is that of the text, not the tape's", x.fault(1), 13);
        Check.feed(x, "do go;do left;      ");
        due("20 of 20", x.rules(20), 2);
        Check.feed(x, "do go;do left;      ");
        due("a word that is cut", x.rules(12), NONE);
        due("at its place", x.fault(1), 9);
        Check.feed(x, "do go;do left;      ");
        due("n at the end of a line", x.rules(6), 1);
        Check.feed(x, "if mode 1 do mode 23;");
        due("a number that is cut", x.rules(19), NONE);
        due("more must come", x.fault(0), 1);
        due("more must come", x.fault(1), 19);
        // What an earlier text left must not be read.
        Check.rules(x, "do go;do left;do right;");
        due("a shorter text", Check.rules(x, "do go;"), 1);
    }

    /** "TICKS by RULES (0 .. 5000), THE BELL is no end", "TICKS by the NET (0 .. 5000)". */
    private void ticks() {
        RelayMouse x = on(2, 2, "do right;");
        Check.net(x, "right = bump or not bump;");
        due("tick 0", x.tick(0), 0);
        due("pull 0", x.pull(0), 0);
        due("no turn", x.mouse(1), 0);
        due("tick 1", x.tick(1), 1);
        due("a turn", x.mouse(1), 1);
        due("tick 4999", x.tick(4999), 4999);
        due("5000 in all", x.mouse(1), 0);
        due("tick 5000", x.tick(5000), 5000);
        due("whole turns", x.mouse(1), 0);
        due("pull 5000", x.pull(5000), 0);
        due("whole turns", x.mouse(1), 0);
        due("pull 4999", x.pull(4999), 0);
        due("less one", x.mouse(1), 3);
        due("tick 5001", x.tick(5001), NONE);
        due("pull 5001", x.pull(5001), NONE);
        due("tick -1", x.tick(-1), NONE);
        due("pull -1", x.pull(-1), NONE);
        due("nothing is done", x.mouse(1), 3);
        Check.net(x, "go = bump or not bump; right = bell; left = bell;");
        x.lift(2, 1);
        due("on the bell it goes on to the rim", x.pull(5000), 1);
        Check.net(x, "go = not bump; right = bump or bell;");
        x.lift(1, 2);
        due("the bell is no end of pull", x.pull(3), 2);
    }

    /** "A RUN: TICKS till it is on THE BELL (0, if it is there), at most so many; NEVER, if it isn't by then." */
    private void runs() {
        for (int length = 1; length <= 5; length++) {
            RelayMouse x = on(6, 2, "do go;");
            x.bell(length);
            x.lift(0, 1);
            due("one too few", x.run(length - 1), NEVER);
            due("all are done", x.mouse(0), length - 1);
            x.lift(0, 1);
            due("just enough", x.run(length), length);
            due("it is there", x.run(0), 0);
            due("it is there", x.run(1), 0);
            x.lift(0, 1);
            due("one too many", x.run(length + 1), length);
            due("it stops there", x.mouse(0), length);
            Check.net(x, "go = not bump;");
            x.lift(0, 1);
            due("one too few by a net", x.pullRun(length - 1), NEVER);
            due("all are done", x.mouse(0), length - 1);
            x.lift(0, 1);
            due("just enough by a net", x.pullRun(length), length);
            due("it is there", x.pullRun(0), 0);
            x.lift(0, 1);
            due("one too many by a net", x.pullRun(length + 1), length);
            due("it stops there", x.mouse(0), length);
        }
    }

    /** Rules that wait for 4999 ticks and then go right: modes count the hundreds, yeses the thousands. */
    private static String wait5000() {
        StringBuilder text = new StringBuilder();
        for (int mode = 0; mode < 9; mode++) {
            text.append("if mode").append(mode).append("count99do zero mode").append(mode + 1).append(';');
        }
        return text + "if count99yes2do right go;if count99yes0yes1do zero mode0drop0drop1set2;"
            + "if count99yes0do zero mode0drop0set1;if count99do zero mode0set0;do add;";
    }

    /** "A RUN by RULES, at most n TICKS (0 .. 5000)". */
    private void longRuns() {
        RelayMouse x = on(2, 2);
        due("rules", Check.rules(x, wait5000()), 14);
        x.bell(1);
        due("5000 are just enough", x.run(5000), 5000);
        x.lift(0, 0);
        x.wipe();
        due("4999 are too few", x.run(4999), NEVER);
        due("it has not gone", x.mouse(0), 0);
        due("one more", x.run(1), 1);
        x.lift(0, 0);
        x.wipe();
        due("tick does them, too", x.tick(5000), 5000);
        due("it has gone", x.mouse(0), 1);
        due("2000 are too few for COMES", x.comes(0) > 0, true);
    }

    /** A net that goes on to "then" at one tick: nine relays that come to each of 511 states in a row. */
    private static String shifts() {
        StringBuilder text = new StringBuilder("relay a=i and e or not i and not e;");
        for (char name = 'b'; name <= 'i'; name++) {
            text.append("relay ").append(name).append('=').append((char) (name - 1)).append(';');
        }
        return text.toString();
    }

    /** What holds of these relays behind so many ticks and behind none of the 510 next to it. */
    private static String shiftedBy(int ticks) {
        boolean[] held = new boolean[9];
        for (int i = 0; i < ticks; i++) {
            boolean first = held[8] == held[4];
            System.arraycopy(held, 0, held, 1, 8);
            held[0] = first;
        }
        StringBuilder text = new StringBuilder();
        for (int i = 0; i < 9; i++) {
            text.append(i == 0 ? "" : " and ").append(held[i] ? "" : "not ").append((char) ('a' + i));
        }
        return text.toString();
    }

    /** "A RUN by the NET, at most n TICKS (0 .. 5000), likewise as run()". */
    private void pullRuns() {
        RelayMouse x = on(2, 2);
        x.bell(1);
        // A ring of five counts tens; 5000 is the end of one, and the 5110 states of both are all different.
        String net = shifts() + "relay r=not v;relay s=r;relay t=s;relay u=t;relay v=u;go=not r and not v and "
            + shiftedBy(5000) + ";";
        due("net", Check.net(x, net), 14);
        x.lift(0, 1);
        due("5000 are just enough", x.pullRun(5000), 5000);
        x.lift(0, 1);
        x.wipe();
        due("4999 are too few", x.pullRun(4999), NEVER);
        due("it has not gone", x.mouse(0), 0);
        due("one more", x.pullRun(1), 1);
        x.lift(0, 1);
        x.wipe();
        due("pull does them, too", x.pull(5000), 1);
        due("not again so soon", x.pull(5000), 0);
    }

    /** "FAR: the fewest SQUARES to go", "NONE: one can't come". */
    private void fars() {
        RelayMouse x = on(6, 6);
        for (int bell : new int[] {0, 5, 14, 30, 35}) {
            x.bell(bell);
            for (int square = 0; square < 36; square++) {
                int far = Math.abs(square % 6 - bell % 6) + Math.abs(square / 6 - bell / 6);
                due("far from " + bell, x.look(square, 3), far);
            }
        }
        snake(x);
        x.bell(0);
        for (int row = 0; row < 6; row++) {
            for (int column = 0; column < 6; column++) {
                due("along the only way", x.look(row * 6 + column, 3), row * 6 + (row % 2 == 0 ? column : 5 - column));
            }
        }
        x.wall(0, 1, true);
        due("at the bell one is there", x.look(0, 3), 0);
        for (int square = 1; square < 36; square++) {
            due("none can come", x.look(square, 3), NONE);
        }
    }

    /** Walls that leave one way through all 36 squares: right, down, left, down and so on. */
    private static void snake(RelayMouse x) {
        for (int row = 0; row < 5; row++) {
            for (int column = 0; column < 6; column++) {
                if (column != (row % 2 == 0 ? 5 : 0)) {
                    x.wall(row * 6 + column, 2, true);
                }
            }
        }
    }

    /** "WAYS led from SQUARE to SQUARE come to THE BELL: in how many; NONE: they come to a WALL, or round." */
    private void knows() {
        RelayMouse x = on(6, 6, "do keep;");
        for (int row = 0; row < 6; row++) {
            for (int column = 0; column < 6; column++) {
                boolean turns = column == (row % 2 == 0 ? 5 : 0);
                x.lift(row * 6 + column, turns ? 2 : row % 2 == 0 ? 1 : 3);
                x.tick(1);
            }
        }
        x.bell(30);
        due("35 squares", x.knows(0), 35);
        due("one", x.knows(31), 1);
        due("none", x.knows(30), 0);
        x.bell(31);
        due("34 squares", x.knows(0), 34);
        due("from the bell's far side to the rim", x.knows(30), NONE);
        x.wall(5, 2, true);
        due("a wall", x.knows(0), NONE);
        due("a wall", x.knows(5), NONE);
        due("beyond it", x.knows(11), 28);
        x.bell(5);
        due("up to it", x.knows(0), 5);
        x.wall(5, 2, false);
        // 30 and 0 are joined by the first column: round through its squares.
        x.bell(35);
        for (int row = 1; row < 6; row++) {
            x.lift(row * 6, 0);
            x.tick(1);
        }
        due("up to the rim, no: to 0 and round", x.knows(6), NONE);
        x.bell(0);
        due("the bell on the round", x.knows(1), 11);
        due("the bell on the round", x.knows(30), 5);
        x.lift(6, 2);
        x.tick(1);
        due("there and back", x.knows(12), NONE);
        due("there and back", x.knows(6), NONE);
    }

    /** Rules that wait for 1999 ticks with a YES that they set half way, and then go right. */
    private static String wait2000(String first, int yes) {
        StringBuilder text = new StringBuilder(first);
        for (int mode = 0; mode < 9; mode++) {
            text.append("if mode").append(mode).append("count99do zero mode").append(mode + 1).append(';');
        }
        return text + "if count99yes" + yes + "do right go;if count99do zero mode0set" + yes + ";do add;";
    }

    /** "of all SQUARES from which one can come", "NEVER comes in 2000 TICKS". */
    private void comes() {
        RelayMouse x = on(2, 2);
        x.bell(1);
        x.wall(0, 2, true);
        x.wall(1, 2, true);
        Check.rules(x, wait2000("", 0));
        due("2000 are enough", x.comes(0), 0);
        due("none is the first", x.comes(1), NONE);
        Check.rules(x, wait2000("if yes0not yes1do set1;", 0));
        due("2001 are too many", x.comes(0), 1);
        due("square 0", x.comes(1), 0);
        x.wall(0, 1, true);
        due("one can't come from anywhere", x.comes(0), 0);
        due("one can't come from anywhere", x.comes(1), NONE);
        RelayMouse y = on(6, 6);
        due("all but the bell", y.comes(0), 35);
        due("the first", y.comes(1), 0);
        y.bell(0);
        due("all but the bell", y.comes(0), 35);
        due("the first", y.comes(1), 1);
        for (int square = 1; square < 36; square++) {
            for (int side = 0; side < 4; side++) {
                if (square != 34 || side != 1) {
                    y.wall(square, side, true);
                }
            }
        }
        due("none can come", y.comes(0), 0);
        y.bell(34);
        y.wall(34, 1, false);
        due("one can come", y.comes(0), 1);
        due("the last one", y.comes(1), 35);
        RelayMouse along = on(6, 6);
        snake(along);
        due("from the far end of the longest way, too", along.comes(0), 35);
        along.bell(0);
        due("from the far end of the longest way, too", along.comes(0), 35);
        along.wall(35, 3, true);
        due("from one less", along.comes(0), 30);
        // All is wiped and set to 0 for it, whatever the mouse is now.
        RelayMouse z = on(2, 2, "do mode 1 add set 0 right keep;");
        z.tick(4);
        Check.rules(z, "if mode 0 not count 1 not yes 0 way bump do right right go mode 2; if mode 2 do left go;");
        z.bell(3);
        due("from 0 and 1", z.comes(0), 1);
        due("but not from 2", z.comes(1), 2);
    }

    /** "RUNS to THE BELL (2000 TICKS at most), is set down there again, .. nothing wiped, and RUNS again". */
    private void seconds() {
        RelayMouse x = on(2, 2);
        x.bell(1);
        Check.rules(x, wait2000("", 0));
        due("2000 are enough", x.second(0, 0), 2000);
        due("one go", x.second(0, 2), 1);
        due("the second", x.second(0, 1), 1000);
        due("one go", x.second(0, 3), 1);
        Check.rules(x, wait2000("if yes0not yes1do set1;", 0));
        for (int what = 0; what < 4; what++) {
            due("2001 are too many", x.second(0, what), NEVER);
            due("from the bell", x.second(1, what), 0);
        }
        Check.rules(x, wait2000("if not yes0do set0right go;", 1));
        due("the first run is short", x.second(0, 0), 1);
        due("one go", x.second(0, 2), 1);
        due("the second run has 2000", x.second(0, 1), 2000);
        due("one go", x.second(0, 3), 1);
        Check.rules(x, wait2000("if not yes0do set0right go;if not yes2do set2;", 1));
        due("the first run is short", x.second(0, 0), 1);
        due("the second run has 2001", x.second(0, 1), NEVER);
        due("the second run has 2001", x.second(0, 3), NEVER);
        due("one go", x.second(0, 2), 1);
        x.wall(0, 1, true);
        x.wall(2, 1, true);
        for (int what = 0; what < 4; what++) {
            due("one can't come", x.second(0, what), NEVER);
        }
    }

    /** "RUNS of 100 TICKS" on all small floors. */
    private void shortRuns() {
        RelayMouse x = new RelayMouse();
        String then = "if mode 0 not bump do go; if mode 0 do right mode 1; if mode 1 not bump do go; do right;";
        Check.rules(x, then);
        int longest = x.longest(2, 2, 0);
        int walls = x.longest(2, 2, 1);
        int square = x.longest(2, 2, 2);
        due("some ticks", longest > 1 && longest < 100, true);
        Check.rules(x, "if not count " + (100 - longest) + " do add;" + then);
        due("100 are enough", x.longest(2, 2, 0), 100);
        due("the same walls", x.longest(2, 2, 1), walls);
        due("the same square", x.longest(2, 2, 2), square);
        Check.rules(x, "if not count " + (101 - longest) + " do add;" + then);
        due("101 are too many", x.longest(2, 2, 0) <= 100, true);
        // From 1 down to 3 behind so many ticks, from nowhere else.
        Check.rules(x, "if count 99 do back go; do add;");
        due("100 ticks", x.longest(2, 2, 0), 100);
        due("from 1", x.longest(2, 2, 2), 1);
        Check.rules(x, "if not count 99 do add; if mode 0 do mode 1; do back go;");
        due("101 ticks: none comes but from the bell", x.longest(2, 2, 0), 0);
        due("from the bell", x.longest(2, 2, 2), 3);
        Check.rules(x, "do back go back go;");
        due("it is asked behind a tick: past the bell", x.longest(2, 3, 0), 0);
    }

    /** "ALL FLOORS of W by H (2, 3 each)". */
    private void smallSizes() {
        RelayMouse x = on(6, 6, "do right right go left go;");
        for (int w = 1; w <= 4; w++) {
            for (int h = 1; h <= 4; h++) {
                boolean small = w >= 2 && w <= 3 && h >= 2 && h <= 3;
                due("held " + w + " " + h, x.held(w, h, 0) != NONE, small);
                due("held " + w + " " + h, x.held(w, h, 1) != NONE, small);
                due("longest " + w + " " + h, x.longest(w, h, 0) != NONE, small);
                due("longest " + w + " " + h, x.longest(w, h, 2) != NONE, small);
                due("needs " + w + " " + h, x.needs(0, w, h), small ? 0 : NONE);
                due("needs " + w + " " + h, x.needs(2, w, h), small ? 0 : NONE);
            }
        }
        Check.rules(x, "if bell do wipe;");
        for (int w = 2; w <= 3; w++) {
            for (int h = 2; h <= 3; h++) {
                due("held where nothing is done: no walls", x.held(w, h, 0), 0);
                due("held where nothing is done: square 0", x.held(w, h, 1), 0);
                due("longest: 0 ticks", x.longest(w, h, 0), 0);
                due("longest: no walls", x.longest(w, h, 1), 0);
                due("longest: the bell", x.longest(w, h, 2), w * h - 1);
            }
        }
        // Down, and right where it can't go down: held by the first wall below a square alone.
        Check.rules(x, "if mode 0 do back mode 1; if mode 1 not bump do go; if mode 1 do left mode 2; "
            + "if mode 2 not bump do go right mode 1;");
        due("held by the last wall of the last row on 2 by 2", x.held(2, 2, 0), 2);
        due("from square 0", x.held(2, 2, 1), 0);
        due("on 3 by 2", x.held(3, 2, 0), 4);
        due("on 2 by 3", x.held(2, 3, 0), 4);
        due("on 3 by 3", x.held(3, 3, 0), 16);
    }

    /** HELD and LONGEST of each size, whichever was asked for ahead of it. */
    private void sizesInAnyRow() {
        RelayMouse x = new RelayMouse();
        // Right, and down where it can't: held by the first wall of the last row, on its left.
        Check.rules(x, "if mode 0 do right mode 1; if mode 1 not bump do go; if mode 1 do right mode 2;"
            + "if mode 2 not bump do go left mode 1;");
        int[][] sizes = {{2, 2}, {2, 3}, {3, 2}, {3, 3}, {3, 2}, {2, 3}, {2, 2}};
        int[] walls = {2, 4, 4, 16, 4, 4, 2};
        int[] squares = {2, 4, 3, 6, 3, 4, 2};
        for (int i = 0; i < sizes.length; i++) {
            String size = sizes[i][0] + " by " + sizes[i][1];
            due("held: walls on " + size, x.held(sizes[i][0], sizes[i][1], 0), walls[i]);
            due("held: square on " + size, x.held(sizes[i][0], sizes[i][1], 1), squares[i]);
        }
        // Straight down: from the last square of the first row.
        Check.rules(x, "if mode 0 do back mode 1; do go;");
        for (int[] size : sizes) {
            due("longest: ticks on " + size[0] + " by " + size[1], x.longest(size[0], size[1], 0), size[1]);
            due("longest: walls on " + size[0] + " by " + size[1], x.longest(size[0], size[1], 1), 0);
            due("longest: square on " + size[0] + " by " + size[1], x.longest(size[0], size[1], 2), size[0] - 1);
        }
    }

    /** Two relays of which one, if it is stuck held, turns at a wall alone: the wall ahead tells them apart. */
    private static final String TELLTALE =
        "relay a = bell and not bell; relay b = bell and not bell; right = a or b and not bump;";

    /** "between a SQUARE and that on its right, rows by rows, then that below it, rows by rows; the first one lowest". */
    private void wallNumbers() {
        for (int w = 2; w <= 6; w++) {
            for (int h = 2; h <= 6; h++) {
                RelayMouse x = on(w, h);
                Check.net(x, TELLTALE);
                x.stick(0, 1);
                int number = 0;
                for (int side = 1; side <= 2; side++) {
                    for (int square = 0; square < w * h; square++) {
                        if ((rimOf(square, w, h) >> side & 1) == 0) {
                            x.lift(square, side);
                            due("wall of " + square + " on " + w + " " + h, x.trial(1, 0), number);
                            due("one is left", x.trial(1, 1), 1);
                            x.lift(square + (side == 1 ? 1 : w), (side + 2) % 4);
                            due("from beyond", x.trial(1, 0), number);
                            number++;
                        }
                    }
                }
            }
        }
    }

    /** "SAME by T TICKS (1 .. 500)": "the first TICK behind which SQUARE, HEADING or a WAY differs". */
    private void sames() {
        RelayMouse x = on(2, 2);
        due("1 is allowed", x.same(1), 0);
        due("500 is allowed", x.same(500), 0);
        due("0 is not", x.same(0), NONE);
        due("501 is not", x.same(501), NONE);
        for (String last : new String[] {"right", "right right go"}) {
            StringBuilder text = new StringBuilder();
            for (int mode = 0; mode < 4; mode++) {
                text.append("if mode ").append(mode).append(" count 99 do zero mode ").append(mode + 1).append(';');
            }
            Check.rules(x, text + "if count 99 do " + last + "; do add;");
            due("tick 500", x.same(500), 500);
            due("not by 499", x.same(499), 0);
        }
        Check.rules(x, "do right keep left;");
        due("a way alone, at once", x.same(1), 1);
        due("at the first tick", x.same(500), 1);
        Check.rules(x, "do set 0 mode 3 add keep;");
        due("yeses, mode, count and a way 0 don't matter", x.same(500), 0);
        Check.net(x, shifts() + "right=" + shiftedBy(500) + ";");
        due("tick 500 by the net", x.same(500), 500);
        due("not by 499", x.same(499), 0);
        x.pull(1);
        due("no relay is held for it", x.same(500), 500);
        due("all is as it was", x.relays(), 1);
    }

    /** "SUSPECTS by T TICKS": behind each of them. */
    private void suspects() {
        RelayMouse x = on(2, 2);
        Check.net(x, shifts() + "relay y=bell;relay z=bell and z;right=z and " + shiftedBy(500) + ";");
        for (int what = 0; what < 2; what++) {
            due("none stuck: none", x.suspects(500, what), 0);
            due("1 is allowed", x.suspects(1, what), 0);
            due("0 is not", x.suspects(0, what), NONE);
            due("501 is not", x.suspects(501, what), NONE);
        }
        x.stick(10, 1);
        due("it turns at 500", x.suspects(500, 1), 1 << 10);
        due("none not held", x.suspects(500, 0), 0);
        due("not by 499", x.suspects(499, 1), 0);
        due("alone: no trial", x.trial(500, 0), NONE);
        x.stick(10, 2);
        x.stick(9, 1);
        due("what isn't asked for is as with none stuck", x.suspects(500, 1), 0);
        StringBuilder text = new StringBuilder();
        for (int i = 0; i < 20; i++) {
            text.append("relay ").append((char) ('a' + i)).append("=bell;");
        }
        Check.net(x, text + "right=a or t;");
        x.stick(19, 1);
        due("the first and the last of twenty", x.suspects(9, 1), 1 | 1 << 19);
        due("none not held", x.suspects(9, 0), 0);
        Check.net(x, text.toString().replace("bell", "bump") + "right=a and t;");
        x.stick(0, 0);
        due("the first and the last of twenty", x.suspects(9, 0), 1 | 1 << 19);
        due("none held", x.suspects(9, 1), 0);
    }

    /** "TRY: the WALL .. which, moved ahead of that, leaves the fewest SUSPECTS alike (of several the least number)". */
    private void trials() {
        RelayMouse x = on(2, 2);
        Check.net(x, shifts() + "relay y=y;relay z=z;right=(y or z and not bump) and " + shiftedBy(500) + ";");
        x.lift(1, 2);
        due("no suspects", x.trial(500, 0), NONE);
        x.stick(9, 1);
        due("two suspects", x.suspects(500, 1), 3 << 9);
        due("the wall below 1", x.trial(500, 0), 3);
        due("one is left", x.trial(500, 1), 1);
        for (int what = 0; what < 2; what++) {
            due("none by 499", x.trial(499, what), NONE);
            due("0 is no length", x.trial(0, what), NONE);
            due("501 is no length", x.trial(501, what), NONE);
        }
        // Both walls tell them apart, on the mouse's way round: the lesser number of them.
        RelayMouse y = on(2, 2);
        Check.net(y, "relay a = a; relay b = b; relay t = not t; right = a or b and not bump; go = not t and not bump;");
        y.stick(0, 1);
        y.lift(3, 3);
        due("two suspects", y.suspects(1, 1), 3);
        due("the wall between 2 and 3", y.trial(1, 0), 1);
        due("one is left", y.trial(1, 1), 1);
        y.lift(3, 2);
        due("at the rim another one", y.suspects(1, 1), 1);
        due("fewer than two", y.trial(1, 0), NONE);
        due("fewer than two", y.trial(1, 1), NONE);
        // Three suspects: wall 0 leaves two of them alike.
        RelayMouse z = on(2, 2);
        Check.net(z, "relay a=a;relay b=b;relay c=c;right=a or b or c and not bump;");
        z.stick(0, 1);
        z.lift(0, 1);
        due("three suspects", z.suspects(1, 1), 7);
        due("wall 0", z.trial(1, 0), 0);
        due("two are left", z.trial(1, 1), 2);
        // The one that is stuck now is the odd one.
        z.stick(0, 2);
        z.stick(2, 1);
        due("three suspects", z.suspects(1, 1), 7);
        due("wall 0", z.trial(1, 0), 0);
        due("one is left", z.trial(1, 1), 1);
    }

    /** Each WALL is moved alone, the others stand as they do. */
    private void wallsMovedAlone() {
        RelayMouse x = on(3, 2, "do keep;");
        // Only at square 4, which has way 1, at a wall and at the second tick do a and b differ: walls 2 and 3 moved.
        Check.net(x, "relay a=a;relay b=b;relay s=not s;left=(a or b)and s and bump;go=s and not bump;"
            + "right=b and not s and bump and one;");
        x.wall(3, 1, true);
        x.lift(4, 1);
        x.tick(1);
        x.lift(3, 1);
        x.stick(0, 1);
        due("two suspects", x.suspects(2, 1), 3);
        due("no wall tells them apart: the least", x.trial(2, 0), 0);
        due("both are left", x.trial(2, 1), 2);
        x.wall(4, 1, true);
        due("two suspects", x.suspects(2, 1), 3);
        due("wall 2 taken away", x.trial(2, 0), 2);
        due("one is left", x.trial(2, 1), 1);
    }

    /** "RELAYS, at most 20, numbered as they are told"; "A RELAY is STUCK (what 0: not held, 1: held), or not any more (2)". */
    private void sticks() {
        RelayMouse x = on(2, 2);
        due("no relay 0", x.stick(0, 0), false);
        StringBuilder text = new StringBuilder();
        for (int i = 0; i < 20; i++) {
            text.append("relay ").append((char) ('a' + i)).append("=one;");
        }
        Check.net(x, text.toString());
        for (int relay = 0; relay < 20; relay++) {
            due("stick " + relay, x.stick(relay, 1), true);
            due("held at once", x.relays(), 1 << relay);
            due("stuck", x.stuck(), 1 << relay);
            due("stick " + relay, x.stick(relay, 0), true);
            due("not held at once", x.relays(), 0);
            due("still stuck", x.stuck(), 1 << relay);
            due("free " + relay, x.stick(relay, 2), true);
            due("none stuck", x.stuck(), 0);
            due("free again", x.stick(relay, 2), true);
        }
        due("no relay 20", x.stick(20, 0), false);
        due("no relay 32", x.stick(32, 0), false);
        for (int relay = 0; relay < 20; relay++) {
            x.stick(relay, 1);
        }
        due("all", x.stuck(), (1 << 20) - 1);
        x.pull(3);
        due("all hold", x.relays(), (1 << 20) - 1);
        x.wipe();
        due("all hold always", x.relays(), (1 << 20) - 1);
        x.floor(3, 3);
        due("on another floor, too", x.relays(), (1 << 20) - 1);
        due("a net without relays", Check.net(x, "go = bump;"), 0);
        due("none is stuck", x.stuck(), 0);
        due("none holds", x.relays(), 0);
        due("no relay 0", x.stick(0, 2), false);
    }

    /** "32 times the one that wouldn't change and the other; of both ways round the lesser number". */
    private void races() {
        StringBuilder idle = new StringBuilder();
        for (int i = 0; i < 18; i++) {
            idle.append("relay ").append((char) ('a' + i)).append("=bell;");
        }
        RelayMouse x = on(2, 2);
        String first = "relay y=not z;";
        String last = "relay z=not y;";
        Check.net(x, first + last + idle);
        x.pull(1);
        due("0 and 1, both ways", x.race(), 1);
        Check.net(x, idle + first + last);
        x.pull(1);
        due("18 and 19, both ways", x.race(), 32 * 18 + 19);
        Check.net(x, first + idle + last);
        x.pull(1);
        due("0 and 19, both ways", x.race(), 19);
        Check.net(x, "relay z=not z;" + idle + first);
        x.pull(1);
        due("19 wouldn't, if 0 had", x.race(), 32 * 19);
        Check.net(x, first + idle + "relay z=not z;");
        x.pull(1);
        due("0 wouldn't, if 19 had", x.race(), 19);
        // Held ones that are let go race, too.
        Check.net(x, "relay y=z or bell;relay z=y or bell;");
        x.lift(3, 0);
        x.pull(1);
        due("held together: no race", x.race(), NONE);
        x.lift(0, 0);
        x.pull(1);
        due("they hold each other", x.race(), NONE);
        Check.net(x, "relay y=bell and not z or bell and z;relay z=bell;");
        x.lift(3, 0);
        x.pull(1);
        due("whatever the other does", x.race(), NONE);
        Check.net(x, "relay y=not z;relay z=not y;");
        x.pull(2);
        due("let go together", x.race(), 1);
        due("none holds", x.relays(), 0);
        x.pull(0);
        due("0 ticks are none", x.race(), 1);
        x.stick(1, 1);
        x.pull(1);
        due("a stuck one doesn't change", x.race(), NONE);
        Check.net(x, "relay y=not y;");
        x.pull(1);
        due("one alone", x.race(), NONE);
        Check.net(x, "relay y=not z;relay z=not y;");
        x.pull(1);
        due("a race", x.race(), 1);
        Check.net(x, "relay y=not z;relay z=not ;");
        due("a faulty net is none", x.race(), 1);
        Check.net(x, "relay y=not z;relay z=not y;");
        due("no tick since the net was told, were it the same", x.race(), NONE);
    }

    /** "IMAGE k (0 .. 3)". */
    private void images() {
        RelayMouse x = on(6, 6, "do keep set 2 add mode 9 go;");
        Check.net(x, "relay a=not a;");
        for (int k = 0; k < 4; k++) {
            due("nothing is kept there", x.restore(k), false);
            x.lift(35 - k, 0);
            x.wall(35 - 6 * k, 0, true);
            x.bell(k);
            x.tick(k + 1);
            x.pull(1);
            due("keep " + k, x.keep(k), true);
            due("images", x.count(6), k + 1);
        }
        due("keep 4", x.keep(4), false);
        due("keep -1", x.keep(-1), false);
        due("restore 4", x.restore(4), false);
        due("restore -1", x.restore(-1), false);
        due("images", x.count(6), 4);
        x.wipe();
        int[] counts = {1, 3, 6, 10};
        for (int k = 3; k >= 0; k--) {
            due("restore " + k, x.restore(k), true);
            due("bell " + k, x.count(5), k);
            due("walls " + k, x.count(4), k + 1);
            due("count " + k, x.mouse(3), counts[k]);
            due("mode " + k, x.mouse(2), 9);
            due("relays " + k, x.relays(), (k + 1) % 2);
            due("images stay", x.count(6), 4);
        }
        due("a good net", Check.net(x, ""), 0);
        due("has no images", x.count(6), 0);
        for (int k = 0; k < 4; k++) {
            due("nothing is kept there", x.restore(k), false);
        }
        x.keep(3);
        due("one image", x.count(6), 1);
        x.keep(3);
        due("still one", x.count(6), 1);
        x.floor(6, 6);
        due("another floor has none", x.count(6), 0);
        due("another floor has none", x.restore(3), false);
    }

    /** "0 SQUARES, .. 4 WALLS that stand between SQUARES, .. 6 IMAGES": empty and full. */
    private void counting() {
        for (int w = 2; w <= 6; w += 2) {
            for (int h = 2; h <= 6; h += 2) {
                RelayMouse x = on(w, h);
                due("no walls", x.count(4), 0);
                int walls = 0;
                for (int square = 0; square < w * h; square++) {
                    for (int side = 0; side < 4; side++) {
                        walls += x.wall(square, side, true) ? 1 : 0;
                    }
                }
                due("all walls", x.count(4), h * (w - 1) + w * (h - 1));
                due("each was set once", walls, x.count(4));
                due("all sides", x.look(w * h - 1, 2), 15);
                due("squares", x.count(0), w * h);
            }
        }
        RelayMouse x = new RelayMouse();
        due("no lines", x.count(1), 0);
        Check.rules(x, "do go;".repeat(30));
        due("30 lines", x.count(1), 30);
        due("no relays", x.count(2), 0);
        due("no knots", x.count(3), 0);
        due("64 knots", Check.net(x, "relay a=" + "not ".repeat(63) + "a;"), 1);
        due("64 knots", x.count(3), 64);
        due("one relay", x.count(2), 1);
        Check.net(x, "");
        due("no relays", x.count(2), 0);
        due("no knots", x.count(3), 0);
        due("lines stay", x.count(1), 30);
        Check.rules(x, "");
        due("no lines", x.count(1), 0);
    }
}
