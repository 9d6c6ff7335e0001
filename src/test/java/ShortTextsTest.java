/** All texts of a few tokens, as rules and as nets: the class and the plain Model must answer the same. */
public final class ShortTextsTest {
    private static final String[] RULES = {"if", "do", "not", "bump", "way", "mode", "count", "yes", "set", "go", ";",
        "1", "3", "10", "x"};
    private static final String[] NETS = {"relay", "go", "keep", "or", "and", "not", "bump", "a", "b", "(", ")", "=",
        ";", "abcdefg"};
    private static final String[] RULES_HEADS = {"", "if bump", "if mode 1", "if not", "do go", "do set", "if way do"};
    private static final String[] NETS_HEADS = {"", "relay a =", "relay a = a ; relay", "go = (", "go = bump", "go = not a",
        "keep = a ; relay a = ( a"};

    private final Check check = new Check("ShortTextsTest");
    private final RelayMouse x = new RelayMouse();
    private final Model m = new Model();
    private final StringBuilder text = new StringBuilder();

    public static void main(String[] args) {
        ShortTextsTest test = new ShortTextsTest();
        for (String head : RULES_HEADS) {
            test.text.append(head);
            test.all(true, 4);
            test.text.setLength(0);
        }
        for (String head : NETS_HEADS) {
            test.text.append(head);
            test.all(false, 4);
            test.text.setLength(0);
        }
        test.check.end();
    }

    private void all(boolean rules, int more) {
        compare(rules);
        if (more == 0) {
            return;
        }
        int length = text.length();
        for (String token : rules ? RULES : NETS) {
            text.append(' ').append(token);
            all(rules, more - 1);
            text.setLength(length);
        }
    }

    private void compare(boolean rules) {
        String told = text.toString();
        for (int at = 0; at < told.length(); at += 20) {
            int[] n = new int[5];
            for (int i = 0; i < 5; i++) {
                n[i] = Check.four(told, at + 4 * i);
            }
            x.feed(n[0], n[1], n[2], n[3], n[4]);
            m.feed(n[0], n[1], n[2], n[3], n[4]);
        }
        int n = told.length();
        int got = rules ? x.rules(n) : x.net(n);
        int want = rules ? m.rules(n) : m.net(n);
        check.due(told, got, want);
        check.due("fault of " + told, x.fault(0), m.fault(0));
        check.due("place in " + told, x.fault(1), m.fault(1));
        check.due("lines behind " + told, x.count(1), m.count(1));
        check.due("relays behind " + told, x.count(2), m.count(2));
        check.due("knots behind " + told, x.count(3), m.count(3));
    }
}
