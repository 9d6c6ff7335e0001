import java.util.List;

/**
 * For each promise what a refused call answers, and that it changes nothing; and that what is only
 * asked changes nothing. Each is tried on a new object and on one that has been used.
 */
public final class RefusedTest {
    private static final int NONE = RelayMouse.NONE;
    private static final int BIG = Integer.MAX_VALUE;
    private static final int LOW = Integer.MIN_VALUE;
    private static final int SQUARES = Twins.BUSY_SQUARES;
    private static final int RELAYS = Twins.BUSY_RELAYS;
    private static final int TAPE = Twins.BUSY_TAPE;

    private final Check check = new Check("RefusedTest");
    private final List<Long> newWhole = Twins.whole(new RelayMouse());
    private final List<Long> busyWhole = Twins.whole(Twins.busy());

    public static void main(String[] args) {
        RefusedTest test = new RefusedTest();
        test.busyIsBusy();
        test.feed();
        test.texts();
        test.whats();
        test.floor();
        test.wall();
        test.bellAndLift();
        test.ticks();
        test.look();
        test.second();
        test.smallFloors();
        test.stick();
        test.lengths();
        test.images();
        test.questions();
        test.noTicks();
        test.faultyTexts();
        test.check.end();
    }

    private void alike(String call, List<Long> got, List<Long> want) {
        check.due(call + " changes nothing", got.equals(want), true);
    }

    /** Refused on an object that has been used. */
    private void refused(String call, Twins.Call refused, long answer) {
        RelayMouse x = Twins.busy();
        check.due(call, refused.on(x), answer);
        alike(call, Twins.whole(x), busyWhole);
    }

    /** Refused on a new object and on one that has been used. */
    private void refusedEver(String call, Twins.Call refused, long answer) {
        refused(call, refused, answer);
        refusedNew(call, refused, answer);
    }

    private void refusedNew(String call, Twins.Call refused, long answer) {
        RelayMouse x = new RelayMouse();
        check.due(call + " of a new object", refused.on(x), answer);
        alike(call + " of a new object", Twins.whole(x), newWhole);
    }

    private static long bit(boolean answer) {
        return answer ? 1L : 0L;
    }

    /** The tests below would be weak on an object that has little to lose. */
    private void busyIsBusy() {
        RelayMouse x = Twins.busy();
        check.due("busy: squares", x.count(0), SQUARES);
        check.due("busy: relays", x.count(2), RELAYS);
        check.due("busy: walls", x.count(4), 2);
        check.due("busy: images", x.count(6), 3);
        check.due("busy: stuck", x.stuck(), 4);
        check.due("busy: relays hold", x.relays() != 0, true);
        check.due("busy: race", x.race() != NONE, true);
        check.due("busy: fault", x.fault(0), 1);
        check.due("busy: mode", x.mouse(2) != 0, true);
        check.due("busy: count", x.mouse(3) != 0, true);
        check.due("busy: line", x.mouse(4) != NONE, true);
        check.due("busy: tape", x.feed(0, 0, 0, 0, 0), TAPE + 20);
        check.due("busy: marked", x.wipe() > 1, true);
        check.due("busy: another object", busyWhole.equals(newWhole), false);
    }

    /** "NONE, and none come, if it would have more than 500". */
    private void feed() {
        RelayMouse x = Twins.busy();
        RelayMouse twin = Twins.busy();
        int word = Check.four("left", 0);
        int blanks = Check.four("", 0);
        for (int fed = TAPE + 20; fed <= 500; fed += 20) {
            check.due("2 feed up to " + fed, x.feed(blanks, blanks, blanks, blanks, blanks), fed);
            twin.feed(blanks, blanks, blanks, blanks, blanks);
        }
        check.due("2 feed to 520", x.feed(word, word, word, word, word), NONE);
        check.due("2 feed to 520 again", x.feed(word, word, word, word, word), NONE);
        alike("2 feed to 520", Twins.whole(x), Twins.whole(twin));
    }

    /** "-2, and the TAPE stays: there are not so many, n is below 0". */
    private void texts() {
        for (int n : new int[] {-1, LOW, TAPE + 1, 500, 501, BIG}) {
            refused("3 rules " + n, x -> x.rules(n), -2);
            refused("4 net " + n, x -> x.net(n), -2);
        }
        for (int n : new int[] {-1, LOW, 1, 20, BIG}) {
            refusedNew("3 rules " + n, x -> x.rules(n), -2);
            refusedNew("4 net " + n, x -> x.net(n), -2);
        }
    }

    /** "NONE for another what". */
    private void whats() {
        for (int what : new int[] {-1, 2, LOW, BIG}) {
            refusedEver("5 fault " + what, x -> x.fault(what), NONE);
            refusedEver("15 comes " + what, x -> x.comes(what), NONE);
        }
        for (int what : new int[] {-1, 5, LOW, BIG}) {
            refusedEver("13 mouse " + what, x -> x.mouse(what), NONE);
        }
        for (int what : new int[] {-1, 7, LOW, BIG}) {
            refusedEver("32 count " + what, x -> x.count(what), NONE);
        }
    }

    /** "false: no such W, H". */
    private void floor() {
        int[][] sizes = {{1, 2}, {2, 1}, {7, 2}, {2, 7}, {1, 6}, {6, 1}, {7, 6}, {6, 7}, {0, 0}, {-3, -2}, {LOW, 3},
            {3, LOW}, {BIG, 3}, {3, BIG}};
        for (int[] size : sizes) {
            refusedEver("6 floor " + size[0] + " " + size[1], x -> bit(x.floor(size[0], size[1])), 0);
        }
    }

    /** "false: no such ones, it is around the FLOOR, or it is so". */
    private void wall() {
        int[][] none = {{-1, 1}, {LOW, 1}, {BIG, 1}, {1, -1}, {1, 4}, {1, LOW}, {1, BIG}, {1, 5}, {1, -3}, {64, 2}};
        for (boolean on : new boolean[] {true, false}) {
            for (int[] at : none) {
                refusedEver("7 wall " + at[0] + " " + at[1] + " " + on, x -> bit(x.wall(at[0], at[1], on)), 0);
            }
            for (int side = 0; side < 4; side++) {
                int s = side;
                refused("7 wall " + SQUARES + " " + s + " " + on, x -> bit(x.wall(SQUARES, s, on)), 0);
                refusedNew("7 wall 25 " + s + " " + on, x -> bit(x.wall(25, s, on)), 0);
                refused("7 wall -1 " + s + " " + on, x -> bit(x.wall(-1, s, on)), 0);
            }
            int[][] around = {{0, 0}, {1, 0}, {2, 0}, {2, 1}, {5, 1}, {5, 2}, {4, 2}, {3, 2}, {3, 3}, {0, 3}};
            for (int[] at : around) {
                refused("7 around " + at[0] + " " + at[1] + " " + on, x -> bit(x.wall(at[0], at[1], on)), 0);
            }
        }
        int[][] standing = {{1, 2}, {4, 0}, {5, 3}, {4, 1}};
        for (int[] at : standing) {
            refused("7 it stands " + at[0] + " " + at[1], x -> bit(x.wall(at[0], at[1], true)), 0);
        }
        int[][] open = {{0, 1}, {1, 3}, {0, 2}, {3, 0}, {2, 2}, {5, 0}};
        for (int[] at : open) {
            refused("7 none stands " + at[0] + " " + at[1], x -> bit(x.wall(at[0], at[1], false)), 0);
        }
    }

    /** "false: no such SQUARE", "false: no such ones", "NONE also: no such SQUARE". */
    private void bellAndLift() {
        for (int square : new int[] {-1, LOW, BIG, 36, 64}) {
            refusedEver("8 bell " + square, x -> bit(x.bell(square)), 0);
            refusedEver("9 lift " + square, x -> bit(x.lift(square, 0)), 0);
            refusedEver("20 knows " + square, x -> x.knows(square), NONE);
        }
        refused("8 bell " + SQUARES, x -> bit(x.bell(SQUARES)), 0);
        refused("9 lift " + SQUARES, x -> bit(x.lift(SQUARES, 3)), 0);
        refused("20 knows " + SQUARES, x -> x.knows(SQUARES), NONE);
        refusedNew("8 bell 25", x -> bit(x.bell(25)), 0);
        refusedNew("9 lift 25", x -> bit(x.lift(25, 3)), 0);
        refusedNew("20 knows 25", x -> x.knows(25), NONE);
        for (int side : new int[] {-1, 4, LOW, BIG}) {
            refusedEver("9 lift to side " + side, x -> bit(x.lift(1, side)), 0);
        }
    }

    /** "TICKS (0 .. 5000)", "NONE: no such number". */
    private void ticks() {
        for (int n : new int[] {-1, 5001, LOW, BIG}) {
            refusedEver("11 tick " + n, x -> x.tick(n), NONE);
            refusedEver("12 run " + n, x -> x.run(n), NONE);
            refusedEver("21 pull " + n, x -> x.pull(n), NONE);
            refusedEver("22 pullRun " + n, x -> x.pullRun(n), NONE);
        }
    }

    /** "IndexOutOfBoundsException: no such SQUARE. NoSuchElementException: no such what." */
    private void look() {
        for (int square : new int[] {-1, LOW, BIG, 25, 36, 64}) {
            for (int what : new int[] {0, 3, 4, -1}) {
                refusedEver("14 look " + square + " " + what, x -> Check.thrownByLook(x, square, what), 1);
            }
        }
        for (int what = 0; what < 4; what++) {
            int w = what;
            refused("14 look " + SQUARES + " " + w, x -> Check.thrownByLook(x, SQUARES, w), 1);
            check.due("14 look at the last square", Check.thrownByLook(Twins.busy(), SQUARES - 1, w), 0);
            check.due("14 look at the last of a new object", Check.thrownByLook(new RelayMouse(), 24, w), 0);
            check.due("14 look at the first square", Check.thrownByLook(Twins.busy(), 0, w), 0);
        }
        for (int what : new int[] {-1, 4, LOW, BIG}) {
            refusedEver("14 look 0 " + what, x -> Check.thrownByLook(x, 0, what), 2);
            refused("14 look at the last " + what, x -> Check.thrownByLook(x, SQUARES - 1, what), 2);
        }
    }

    /** "NONE: no such ones." of SECOND. */
    private void second() {
        for (int square : new int[] {-1, LOW, BIG, 25, 36}) {
            refusedEver("16 second " + square, x -> x.second(square, 0), NONE);
        }
        for (int what = 0; what < 4; what++) {
            int w = what;
            refused("16 second " + SQUARES + " " + w, x -> x.second(SQUARES, w), NONE);
        }
        for (int what : new int[] {-1, 4, LOW, BIG}) {
            refusedEver("16 second of " + what, x -> x.second(0, what), NONE);
        }
    }

    /** "NONE: no such ones." of HELD, LONGEST and NEEDS. */
    private void smallFloors() {
        int[][] sizes = {{1, 2}, {2, 1}, {4, 2}, {2, 4}, {1, 3}, {3, 1}, {4, 3}, {3, 4}, {0, 2}, {LOW, 2}, {2, BIG}};
        for (int[] size : sizes) {
            int w = size[0];
            int h = size[1];
            refused("17 held " + w + " " + h, x -> x.held(w, h, 0), NONE);
            refused("18 longest " + w + " " + h, x -> x.longest(w, h, 0), NONE);
            refused("19 needs " + w + " " + h, x -> x.needs(0, w, h), NONE);
        }
        for (int what : new int[] {-1, LOW, BIG}) {
            refusedEver("17 held what " + what, x -> x.held(2, 2, what), NONE);
            refusedEver("18 longest what " + what, x -> x.longest(2, 2, what), NONE);
            refusedEver("19 needs yes " + what, x -> x.needs(what, 2, 2), NONE);
        }
        refusedEver("17 held what 2", x -> x.held(2, 2, 2), NONE);
        refusedEver("18 longest what 3", x -> x.longest(2, 2, 3), NONE);
        refusedEver("19 needs yes 3", x -> x.needs(3, 2, 2), NONE);
    }

    /** "false: no such ones" of a RELAY and what. */
    private void stick() {
        for (int relay : new int[] {-1, RELAYS, 20, 31, 32, LOW, BIG}) {
            for (int what = 0; what < 3; what++) {
                int w = what;
                refused("25 stick " + relay + " " + w, x -> bit(x.stick(relay, w)), 0);
            }
        }
        for (int what : new int[] {-1, 3, LOW, BIG}) {
            refused("25 stick what " + what, x -> bit(x.stick(0, what)), 0);
            refused("25 stick one that is stuck, what " + what, x -> bit(x.stick(2, what)), 0);
        }
        for (int what = 0; what < 3; what++) {
            int w = what;
            refusedNew("25 stick 0 without a net " + w, x -> bit(x.stick(0, w)), 0);
        }
    }

    /** "T TICKS (1 .. 500)", "NONE: no such T", "no such ones, fewer than two SUSPECTS". */
    private void lengths() {
        for (int t : new int[] {0, -1, 501, LOW, BIG}) {
            refusedEver("27 same " + t, x -> x.same(t), NONE);
            for (int what = 0; what < 2; what++) {
                int w = what;
                refusedEver("28 suspects " + t + " " + w, x -> x.suspects(t, w), NONE);
                refusedEver("29 trial " + t + " " + w, x -> x.trial(t, w), NONE);
            }
        }
        for (int what : new int[] {-1, 2, LOW, BIG}) {
            refusedEver("28 suspects what " + what, x -> x.suspects(5, what), NONE);
            refusedEver("29 trial what " + what, x -> x.trial(5, what), NONE);
        }
        refusedNew("29 trial without suspects", x -> x.trial(5, 0), NONE);
    }

    /** "false: no such k", "false: no such k, nothing is kept there". */
    private void images() {
        for (int k : new int[] {-1, 4, 32, LOW, BIG}) {
            refusedEver("30 keep " + k, x -> bit(x.keep(k)), 0);
            refusedEver("31 restore " + k, x -> bit(x.restore(k)), 0);
        }
        refused("31 restore what isn't kept", x -> bit(x.restore(Twins.BUSY_MISSING)), 0);
        for (int k = 0; k < 4; k++) {
            int image = k;
            refusedNew("31 restore " + k, x -> bit(x.restore(image)), 0);
        }
    }

    private void asked(String call, Twins.Call question) {
        RelayMouse x = Twins.busy();
        question.on(x);
        alike(call, Twins.whole(x), busyWhole);
        RelayMouse fresh = new RelayMouse();
        question.on(fresh);
        alike(call + " of a new object", Twins.whole(fresh), newWhole);
    }

    /** "all is afterwards as it was, here and below". */
    private void questions() {
        for (int what = 0; what < 4; what++) {
            int w = what;
            asked("14 look", x -> x.look(1, w));
            asked("16 second", x -> x.second(3, w));
        }
        for (int what = 0; what < 2; what++) {
            int w = what;
            asked("5 fault", x -> x.fault(w));
            asked("15 comes", x -> x.comes(w));
            asked("17 held", x -> x.held(3, 2, w));
            asked("28 suspects", x -> x.suspects(500, w));
            asked("29 trial", x -> x.trial(1, w));
            asked("29 trial", x -> x.trial(20, w));
        }
        for (int what = 0; what < 3; what++) {
            int w = what;
            asked("18 longest", x -> x.longest(2, 3, w));
            asked("19 needs", x -> x.needs(w, 2, 3));
        }
        for (int what = 0; what < 5; what++) {
            int w = what;
            asked("13 mouse", x -> x.mouse(w));
        }
        for (int what = 0; what < 7; what++) {
            int w = what;
            asked("32 count", x -> x.count(w));
        }
        asked("20 knows", x -> x.knows(0));
        asked("23 relays", x -> x.relays());
        asked("24 race", x -> x.race());
        asked("26 stuck", x -> x.stuck());
        asked("27 same", x -> x.same(1));
        asked("27 same", x -> x.same(500));
    }

    /** No tick is done by 0 of them, and none by a run from the bell. */
    private void noTicks() {
        asked("11 tick 0", x -> x.tick(0));
        asked("12 run 0", x -> x.run(0));
        asked("21 pull 0", x -> x.pull(0));
        asked("22 pullRun 0", x -> x.pullRun(0));
        RelayMouse twin = Twins.busy();
        twin.lift(4, 1);
        List<Long> due = Twins.whole(twin);
        for (int n : new int[] {0, 1, 5000}) {
            RelayMouse x = Twins.busy();
            x.lift(4, 1);
            check.due("12 run from the bell", x.run(n), 0);
            check.due("22 pullRun from the bell", x.pullRun(n), 0);
            alike("12, 22 runs from the bell", Twins.whole(x), due);
        }
    }

    /** With a FAULT all stays but the tape and what fault() tells. */
    private void faultyTexts() {
        String[] texts = {"x", ";", "do left;do go;do", "relay a = not a;go = b;", "relay a=a;relay a=a;", "if bump do"};
        for (String text : texts) {
            for (boolean rules : new boolean[] {true, false}) {
                RelayMouse x = Twins.busy();
                RelayMouse twin = Twins.busy();
                // "do " is a fault, too: both have an empty tape then.
                check.due("the tape's first three bytes are a fault", x.rules(3), NONE);
                twin.rules(3);
                int answer = rules ? Check.rules(x, text) : Check.net(x, text);
                check.due("3, 4 fault of " + text, answer, NONE);
                // The same fault is told last, so that fault() is no difference.
                Check.rules(x, "do foo;");
                Check.rules(twin, "do foo;");
                alike("3, 4 a fault of " + text, Twins.whole(x), Twins.whole(twin));
            }
        }
    }
}
