import java.util.ArrayList;
import java.util.List;

/** Objects made twice by the same calls: what changes nothing leaves one of them like the other in all that can be seen. */
final class Twins {
    /** What can be asked of an object, or done to it. */
    interface Call {
        long on(RelayMouse x);
    }

    static final int BUSY_SQUARES = 6;
    static final int BUSY_RELAYS = 3;
    static final int BUSY_TAPE = 40;
    /** The only image that is not kept. */
    static final int BUSY_MISSING = 3;

    private Twins() {
    }

    /** An object with something other than at first in each of its parts. */
    static RelayMouse busy() {
        RelayMouse x = new RelayMouse();
        x.floor(3, 2);
        Check.rules(x, "if yes 0 bump do right mode 2; if yes 0 do go add; do keep set 0 right;");
        Check.net(x, "relay a = not b; relay b = not a or bump; relay c = c;"
            + "go = b and not bump; left = a and bump; right = c; keep = b;");
        x.wall(1, 2, true);
        x.wall(5, 3, true);
        x.bell(4);
        x.tick(5);
        x.keep(0);
        x.pull(2);
        x.keep(1);
        x.tick(4);
        x.lift(2, 3);
        x.keep(2);
        x.tick(3);
        x.pull(1);
        x.stick(2, 1);
        Check.rules(x, "do foo;");
        Check.feed(x, "do left;do right go;");
        Check.feed(x, "do back keep set 2; ");
        return x;
    }

    /** All that questions tell without being in doubt whether they change something. */
    static List<Long> seen(RelayMouse x) {
        List<Long> all = brief(x);
        for (int square = 0; square < x.count(0); square++) {
            for (int what = 0; what < 4; what++) {
                all.add((long) x.look(square, what));
            }
        }
        return all;
    }

    private static List<Long> brief(RelayMouse x) {
        List<Long> all = new ArrayList<>();
        for (int what = 0; what < 5; what++) {
            all.add((long) x.mouse(what));
        }
        for (int what = 0; what < 7; what++) {
            all.add((long) x.count(what));
        }
        all.add((long) x.relays());
        all.add((long) x.stuck());
        all.add((long) x.race());
        all.add((long) x.fault(0));
        all.add((long) x.fault(1));
        return all;
    }

    /** All but the tape; the object is another one afterwards. */
    static List<Long> body(RelayMouse x) {
        List<Long> all = seen(x);
        for (int what = 0; what < 2; what++) {
            all.add((long) x.comes(what));
            all.add((long) x.held(2, 2, what));
            all.add((long) x.longest(2, 2, what));
            all.add((long) x.needs(what, 2, 2));
            all.add((long) x.second(1, what));
            all.add((long) x.suspects(9, what));
            all.add((long) x.trial(9, what));
        }
        all.add((long) x.same(9));
        all.add((long) x.tick(2));
        all.addAll(brief(x));
        all.add((long) x.pull(2));
        all.addAll(brief(x));
        for (int k = 0; k < 4; k++) {
            boolean kept = x.restore(k);
            all.add(kept ? 1L : 0L);
            if (kept) {
                all.addAll(seen(x));
            }
        }
        return all;
    }

    /** How much the tape has and what, if it is rules; the object is another one afterwards. */
    static List<Long> tape(RelayMouse x) {
        List<Long> all = new ArrayList<>();
        int blanks = Check.four("", 0);
        int fed = x.feed(blanks, blanks, blanks, blanks, blanks);
        all.add((long) fed);
        all.add((long) x.rules(fed < 0 ? 500 : fed));
        all.add((long) x.fault(0));
        all.add((long) x.fault(1));
        all.add((long) x.tick(1));
        all.addAll(brief(x));
        return all;
    }

    static List<Long> whole(RelayMouse x) {
        List<Long> all = body(x);
        all.addAll(tape(x));
        return all;
    }
}
