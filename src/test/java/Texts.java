import java.util.ArrayList;
import java.util.List;
import java.util.Random;

/** Random texts of rules and nets: good ones, and ones with something wrong. */
final class Texts {
    static final String[] GOOD_RULES = {
        "if bump do right; do keep go;",
        "if bell do wipe; if yes 0 not bump do go; if yes 0 do drop 0 right; if not bump do set 0; do right;",
        "if mode 0 do face mode 1; if mode 1 bump do right; if mode 1 do keep go mode 0 right;",
        "if count 3 do zero left; if bump do add right; do keep go;",
        "if not bump yes 1 do go right; if bump do set 1 left; do drop 1 keep go right;",
        "if mode 0 do right mode 1; if bump do left; do keep go mode 0;",
        "if not yes 0 do set 0 keep go right; if yes 0 not yes 1 do set 1 left go; do back keep go add;",
        "if bell do face; do keep go right;",
    };

    static final String[] GOOD_NETS = {
        "relay a = bump and not a; right = a; go = not bump and not a; keep = not bump;",
        "relay a = not b; relay b = not a; go = a; left = b and bump;",
        "relay a = bump; relay b = a; relay c = b or bell; right = a or c; go = not a; keep = not bump and not b;",
        "relay t = not t; relay u = t and bump or u and not bump; left = u; right = t and bump; go = not bump; keep = t;",
        "go = not bump; right = bump; keep = not bump;",
        "relay x = one; relay y = two or x; relay z = not (x and y) and not bump; go = z; right = not z; keep = z;",
    };

    private static final String[] RULE_TOKENS = {"if", "do", "not", "bump", "bell", "way", "mode", "count", "yes",
        "right", "left", "back", "face", "keep", "go", "set", "drop", "add", "zero", "wipe", ";", "0", "1", "2", "3",
        "9", "10", "99", "100", "007", "foo", "goo", "=", "A", "\t", "\n", "\u00e9"};
    private static final String[] NET_TOKENS = {"relay", "go", "left", "right", "keep", "or", "and", "not", "bump",
        "bell", "one", "two", "(", ")", "=", ";", "a", "b", "c", "zzzzzz", "zzzzzzz", "if", "1", "A", "\n", "\u00ff"};

    private final Random random;

    Texts(Random random) {
        this.random = random;
    }

    private String pick(String... from) {
        return from[random.nextInt(from.length)];
    }

    String rules() {
        if (random.nextInt(3) == 0) {
            return spoiled(pick(GOOD_RULES), RULE_TOKENS, 5);
        }
        StringBuilder text = new StringBuilder();
        int lines = random.nextInt(12) == 0 ? 28 + random.nextInt(5) : 1 + random.nextInt(7);
        boolean brief = lines > 12;
        for (int i = 0; i < lines && text.length() < 400; i++) {
            text.append(brief ? pick("do go;", "if bump do go;", "do add;") : line());
        }
        return spoiled(text.toString(), RULE_TOKENS, 4);
    }

    private String line() {
        StringBuilder text = new StringBuilder();
        List<String> told = new ArrayList<>();
        int tests = random.nextInt(4);
        for (int i = 0; i < tests; i++) {
            String word = pick("bump", "bump", "bell", "way", "mode", "count", "yes", "yes");
            String test = word.equals("mode") ? word + " " + random.nextInt(3)
                : word.equals("count") ? word + " " + random.nextInt(6)
                : word.equals("yes") ? word + " " + random.nextInt(3) : word;
            if (!told.contains(test) || random.nextInt(40) == 0) {
                told.add(test);
                text.append(text.length() == 0 ? "if " : "").append(random.nextInt(3) == 0 ? "not " : "")
                    .append(test).append(' ');
            }
        }
        text.append("do");
        int acts = random.nextInt(50) == 0 ? 11 + random.nextInt(3) : 1 + random.nextInt(5);
        for (int i = 0; i < acts; i++) {
            String word = pick("right", "left", "back", "face", "keep", "go", "go", "go", "keep", "set", "drop", "mode",
                "add", "zero", "set", random.nextInt(8) == 0 ? "wipe" : "go");
            text.append(' ').append(word);
            if (word.equals("set") || word.equals("drop") || word.equals("mode")) {
                text.append(random.nextInt(5) == 0 ? "" : " ").append(random.nextInt(3));
            }
        }
        return text.append(random.nextBoolean() ? "; " : ";\n").toString();
    }

    String net() {
        if (random.nextInt(3) == 0) {
            return spoiled(pick(GOOD_NETS), NET_TOKENS, 5);
        }
        StringBuilder text = new StringBuilder();
        int relays = random.nextInt(15) == 0 ? 18 + random.nextInt(4) : random.nextInt(6);
        List<String> lines = new ArrayList<>();
        for (int i = 0; i < relays; i++) {
            lines.add("relay " + name(i) + " = " + expression(relays, relays > 8 ? 0 : 2) + ";");
        }
        for (String output : new String[] {"go", "left", "right", "keep"}) {
            if (random.nextInt(4) != 0) {
                lines.add(random.nextInt(lines.size() + 1), output + "=" + expression(relays, 1) + ";");
            }
        }
        for (String line : lines) {
            text.append(line);
        }
        return spoiled(text.toString(), NET_TOKENS, 4);
    }

    private static String name(int i) {
        return i < 5 ? "" + (char) ('a' + i) : "n" + (char) ('a' + i);
    }

    private String expression(int relays, int depth) {
        int kind = depth == 0 ? random.nextInt(3) : random.nextInt(9);
        switch (kind) {
            case 0:
                return pick("bump", "bell", "one", "two", "bump");
            case 1:
            case 2:
                return relays == 0 ? "bump" : name(random.nextInt(relays + (random.nextInt(60) == 0 ? 1 : 0)));
            case 3:
            case 4:
                return "not " + expression(relays, depth - 1);
            case 5:
                return "(" + expression(relays, depth - 1) + ")";
            case 6:
                return expression(relays, depth - 1) + " or " + expression(relays, depth - 1);
            default:
                return expression(relays, depth - 1) + " and " + expression(relays, depth - 1);
        }
    }

    /** One time of so many something is wrong, mostly. */
    private String spoiled(String text, String[] tokens, int oneOf) {
        if (random.nextInt(oneOf) != 0 || text.isEmpty()) {
            return text;
        }
        int at = random.nextInt(text.length());
        switch (random.nextInt(4)) {
            case 0:
                return text.substring(0, at);
            case 1:
                return text.substring(0, at) + text.substring(at + 1);
            case 2:
                return text.substring(0, at) + " " + pick(tokens) + " " + text.substring(at);
            default:
                int space = text.indexOf(' ', at);
                return text.substring(0, at) + pick(tokens) + (space < 0 ? "" : text.substring(space));
        }
    }
}
