import java.util.LinkedHashMap;
import java.util.Map;
import java.util.TreeSet;

/** What each call that isn't refused changes: just these parts of an object that has been used, and no other ones. */
public final class EffectsTest {
    private final Check check = new Check("EffectsTest");
    private final Map<String, Long> before = parts(x -> 0);

    public static void main(String[] args) {
        EffectsTest test = new EffectsTest();
        test.texts();
        test.floor();
        test.hands();
        test.wipe();
        test.ticks();
        test.relays();
        test.images();
        test.check.end();
    }

    /** An object made by the same calls each time, and then one call more. */
    private static RelayMouse behind(Twins.Call call) {
        RelayMouse x = Twins.busy();
        call.on(x);
        return x;
    }

    private static Map<String, Long> parts(Twins.Call call) {
        Map<String, Long> parts = new LinkedHashMap<>();
        RelayMouse x = behind(call);
        String[] mouse = {"square", "heading", "mode", "count", "line"};
        for (int what = 0; what < mouse.length; what++) {
            parts.put(mouse[what], (long) x.mouse(what));
        }
        String[] counts = {"squares", "lines", "relays told", "knots", "walls", "bell", "images"};
        for (int what = 0; what < counts.length; what++) {
            parts.put(counts[what], (long) x.count(what));
        }
        String[] looks = {"ways", "yeses", "sides", "far"};
        for (int what = 0; what < looks.length; what++) {
            long all = 0;
            for (int square = 0; square < x.count(0); square++) {
                all = all * 37 + x.look(square, what);
            }
            parts.put(looks[what], all);
        }
        parts.put("relays", (long) x.relays());
        parts.put("stuck", (long) x.stuck());
        parts.put("race", (long) x.race());
        parts.put("fault", (long) x.fault(0));
        parts.put("place", (long) x.fault(1));
        parts.put("tape", (long) behind(call).feed(0, 0, 0, 0, 0));
        parts.put("rules", byRules(behind(call)));
        parts.put("net", byNet(behind(call)));
        for (int k = 0; k < 4; k++) {
            parts.put("image " + k, image(behind(call), k));
        }
        return parts;
    }

    /** What the rules do, whatever else is. */
    private static long byRules(RelayMouse x) {
        long all = 0;
        for (int what = 0; what < 3; what++) {
            all = all * 10007 + x.held(2, 2, what) * 101 + x.longest(2, 2, what) * 7 + x.needs(what, 2, 2);
        }
        return all;
    }

    /** What the net does, whatever else is. */
    private static long byNet(RelayMouse x) {
        for (int relay = 0; relay < 20; relay++) {
            x.stick(relay, 2);
        }
        x.floor(3, 3);
        long all = 0;
        for (int i = 0; i < 12; i++) {
            x.pull(1);
            all = all * 1009 + x.mouse(0) * 64 + x.mouse(1) * 16 + x.relays();
        }
        return all;
    }

    private static long image(RelayMouse x, int k) {
        if (!x.restore(k)) {
            return -1;
        }
        long all = x.relays() & ~x.stuck();
        for (int what = 0; what < 4; what++) {
            all = all * 101 + x.mouse(what);
        }
        for (int square = 0; square < x.count(0); square++) {
            for (int what = 0; what < 4; what++) {
                all = all * 37 + x.look(square, what);
            }
        }
        return all;
    }

    /** Just these parts, written with commas between them, are otherwise behind the call. */
    private void changes(String name, Twins.Call call, String due) {
        Map<String, Long> after = parts(call);
        TreeSet<String> changed = new TreeSet<>();
        for (Map.Entry<String, Long> part : before.entrySet()) {
            if (!part.getValue().equals(after.get(part.getKey()))) {
                changed.add(part.getKey());
            }
        }
        TreeSet<String> wanted = new TreeSet<>();
        for (String part : due.split(",")) {
            if (!part.isEmpty()) {
                wanted.add(part);
            }
        }
        check.due(name + " changes " + changed + ", due is " + wanted, changed.equals(wanted), true);
    }

    private static long bit(boolean answer) {
        return answer ? 1L : 0L;
    }

    private void texts() {
        changes("2 feed", x -> x.feed(1, 2, 3, 4, 5), "tape");
        changes("3 rules", x -> x.rules(40), "tape,rules,line,fault,place");
        changes("3 the first line of them", x -> x.rules(8), "tape,rules,lines,line,fault,place");
        changes("3 no rules", x -> x.rules(0), "tape,rules,lines,line,fault,place");
        changes("3 faulty rules", x -> x.rules(4), "tape");
        changes("3 rules with another fault", x -> Check.rules(x, "if") + Check.rules(x, "if way way do go;"),
            "tape,fault,place");
        changes("4 faulty net", x -> x.net(4), "tape,place");
        String noNet = "net,relays told,knots,relays,stuck,race,images,image 0,image 1,image 2";
        changes("4 no net", x -> x.net(0), "tape,fault,place," + noNet);
        changes("4 net", x -> {
            x.rules(3);
            return Check.net(x, "relay p=not p;go=p;right=bump;");
        }, "tape,fault,place," + noNet);
        changes("4 a net with a fault at its end", x -> Check.net(x, "go=b;") + Check.net(x, "relay p=not p;go=p;go=p;"),
            "tape,fault,place");
    }

    private void floor() {
        String images = "images,image 0,image 1,image 2";
        String mouse = "square,heading,mode,count,line";
        changes("6 the same size", x -> bit(x.floor(3, 2)), mouse + ",walls,bell,ways,yeses,sides,far,relays,tape," + images);
        changes("6 another size", x -> bit(x.floor(6, 6)),
            mouse + ",squares,walls,bell,ways,yeses,sides,far,relays,tape," + images);
    }

    private void hands() {
        changes("7 a wall more", x -> bit(x.wall(0, 1, true)), "walls,sides,far");
        changes("7 a wall less", x -> bit(x.wall(4, 0, false)), "walls,sides,far");
        changes("8 bell", x -> bit(x.bell(0)), "bell,far");
        changes("8 bell where it is", x -> bit(x.bell(4)), "");
        changes("9 lift", x -> bit(x.lift(1, 3)), "square,heading");
        changes("9 lift where it is", x -> bit(x.lift(x.mouse(0), x.mouse(1))), "");
        changes("9 turned by hand", x -> bit(x.lift(x.mouse(0), x.mouse(1) ^ 1)), "heading");
    }

    private void wipe() {
        changes("10 wipe", x -> x.wipe(), "ways,yeses,mode,count,relays");
    }

    private void ticks() {
        // Off the marked squares: keep, set 0 and right.
        changes("11 tick", x -> x.tick(1), "heading,ways,yeses,line");
        changes("12 run", x -> x.run(1), "heading,ways,yeses,line");
        // On a marked one: go and add.
        changes("12 run to the bell", x -> {
            x.lift(3, 1);
            return x.run(9);
        }, "square,heading,count,line");
        // At the rim only one relay changes: keep, and right by the relay that is stuck.
        changes("21 pull", x -> x.pull(1), "heading,ways,relays,race");
        changes("22 pullRun", x -> x.pullRun(1), "heading,ways,relays,race");
    }

    private void relays() {
        changes("25 stuck held", x -> bit(x.stick(0, 1)), "stuck");
        changes("25 stuck not held", x -> bit(x.stick(1, 0)), "stuck,relays");
        changes("25 free, as it was", x -> bit(x.stick(2, 2)), "stuck");
        changes("25 stuck the other way", x -> bit(x.stick(2, 0)), "relays");
    }

    private void images() {
        changes("30 keep", x -> bit(x.keep(3)), "images,image 3");
        changes("30 keep over another", x -> bit(x.keep(0)), "image 0");
        changes("31 restore", x -> bit(x.restore(0)), "square,heading,count,ways,yeses,relays");
        changes("31 restore with other walls and bell", x -> {
            x.bell(0);
            x.wall(1, 2, false);
            x.wall(0, 1, true);
            return bit(x.restore(0));
        }, "square,heading,count,ways,yeses,relays");
    }
}
