/** Texts of rules and nets, good and faulty: the fault and its place (promises 3, 4 and 5). */
public final class FaultsTest {
    private final Check check = new Check("FaultsTest");

    public static void main(String[] args) {
        FaultsTest test = new FaultsTest();
        test.goodRules();
        test.wrongRules();
        test.limitsOfRules();
        test.goodNets();
        test.wrongNets();
        test.limitsOfNets();
        test.check.end();
    }

    /** The place is that of the sign '^' in the second text, which stands below the first. */
    private void rules(String text, int fault, String mark) {
        RelayMouse x = new RelayMouse();
        check.due("rules " + text, Check.rules(x, text), -1);
        check.due("fault of " + text, x.fault(0), fault);
        check.due("place in " + text, x.fault(1), mark.indexOf('^'));
        check.due("no rules by " + text, x.count(1), 0);
    }

    private void net(String text, int fault, String mark) {
        RelayMouse x = new RelayMouse();
        check.due("net " + text, Check.net(x, text), -1);
        check.due("fault of " + text, x.fault(0), fault);
        check.due("place in " + text, x.fault(1), mark.indexOf('^'));
        check.due("no net by " + text, x.count(3), 0);
    }

    private void rulesHave(String text, int lines) {
        RelayMouse x = new RelayMouse();
        check.due("rules " + text, Check.rules(x, text), lines);
        check.due("no fault of " + text, x.fault(0), 0);
        check.due("no place in " + text, x.fault(1), -1);
        check.due("lines of " + text, x.count(1), lines);
    }

    private void netHas(String text, int relays, int knots) {
        RelayMouse x = new RelayMouse();
        check.due("net " + text, Check.net(x, text), relays);
        check.due("no fault of " + text, x.fault(0), 0);
        check.due("no place in " + text, x.fault(1), -1);
        check.due("relays of " + text, x.count(2), relays);
        check.due("knots of " + text, x.count(3), knots);
    }

    private static String at(int place) {
        return " ".repeat(place) + "^";
    }

    private void goodRules() {
        rulesHave("", 0);
        rulesHave("  \n ", 0);
        rulesHave("do go;", 1);
        rulesHave("\ndo\ngo\n;\n", 1);
        rulesHave("do go ;do left;", 2);
        rulesHave("do mode5add;", 1);
        rulesHave("if mode0count7not yes1do go;", 1);
        rulesHave("if bump bell way mode 9 count 99 yes 2 do mode 9 set 2 drop 0;", 1);
        rulesHave("if mode 0000000000000000000009 do go;", 1);
        rulesHave("if mode 1 not mode 2 count 1 yes 1 do go go;", 1);
        rulesHave("if yes 0 yes 1 not yes 2 do right left back face keep go set 0 drop 1 mode 2 add zero wipe;", 1);
    }

    private void wrongRules() {
        rules("go;", 1,
              "^");
        rules(";", 1,
              "^");
        rules("do go;;", 1,
              "      ^");
        rules("if;", 1,
              "  ^");
        rules("if not do go;", 1,
              "       ^");
        rules("if bump;", 1,
              "       ^");
        rules("if bump if do go;", 1,
              "        ^");
        rules("if bump do;", 1,
              "          ^");
        rules("do bump;", 1,
              "   ^");
        rules("do go if;", 1,
              "      ^");
        rules("do go do left;", 1,
              "      ^");
        rules("do not;", 1,
              "   ^");
        rules("do set;", 1,
              "      ^");
        rules("do set go;", 1,
              "       ^");
        rules("do go 1;", 1,
              "      ^");
        rules("do set 1 1;", 1,
              "         ^");
        rules("if bump 1 do go;", 1,
              "        ^");
        rules("if mode do go;", 1,
              "        ^");
        rules("if set 1 do go;", 1,
              "   ^");
        rules("if 1 do go;", 1,
              "   ^");
        rules("1 do go;", 1,
              "^");
        rules("dogo;", 1,
              "^");
        rules("do goo;", 1,
              "   ^");
        rules("do g o;", 1,
              "   ^");
        rules("do Go;", 1,
              "   ^");
        rules("do go, left;", 1,
              "     ^");
        rules("do go\t;", 1,
              "     ^");
        rules("do go\r;", 1,
              "     ^");
        rules("do set -1;", 1,
              "       ^");
        rules("do go=;", 1,
              "     ^");
        rules("do (go);", 1,
              "   ^");
        rules("do " + (char) 233 + ";", 1,
              "   ^");
        rules("do " + (char) 0 + ";", 1,
              "   ^");
        rules("do relay;", 1,
              "   ^");
        rules("doooooooo go;", 1,
              "^");
        rules("do", 1,
              "  ^");
        rules("do  ", 1,
              "    ^");
        rules("if", 1,
              "  ^");
        rules("if not", 1,
              "      ^");
        rules("if mode", 1,
              "       ^");
        rules("if bump", 1,
              "       ^");
        rules("do go \n ", 1,
              "        ^");
        rules("do go;do go", 1,
              "           ^");
        rules("if bump do go; foo", 1,
              "               ^");
    }

    private void limitsOfRules() {
        rules("if mode 10 do go;", 2,
              "        ^");
        rules("if count 100 do go;", 2,
              "         ^");
        rules("if not yes 3 do go;", 2,
              "           ^");
        rules("do mode 10;", 2,
              "        ^");
        rules("do set 3;", 2,
              "       ^");
        rules("do drop 3;", 2,
              "        ^");
        rules("do drop 99999999999999999999999;", 2,
              "        ^");
        rules("do drop 4294967296;", 2,
              "        ^");
        rules("do mode 10 foo", 2,
              "        ^");
        rules("if bump bump do go;", 3,
              "        ^");
        rules("if bump not bump do go;", 3,
              "            ^");
        rules("if not way way do go;", 3,
              "           ^");
        rules("if mode 3 bell not mode 3 do go;", 3,
              "                   ^");
        rules("if yes 1 yes 2 yes 1 do go;", 3,
              "               ^");
        rules("if count 7 count 07 foo", 3,
              "           ^");
        rules("if mode 3 mode 10 do go;", 2,
              "               ^");
        rules("if mode 3 mode do go;", 1,
              "               ^");
        rulesHave("if count 3 yes 2 mode 3 mode 2 do go;", 1);
        rulesHave("if bump do go;if bump do go;", 2);
        String tests = "if mode 0 mode 1 mode 2 mode 3 mode 4 mode 5 mode 6 mode 7 mode 8 mode 9 bump bell";
        rulesHave(tests + " do go;", 1);
        rules(tests + " way do go;", 2, at(tests.length() + 1));
        rules(tests + " not way do go;", 2, at(tests.length() + 1));
        rules(tests + " bump do go;", 2, at(tests.length() + 1));
        rules(tests + " not bump do go;", 2, at(tests.length() + 1));
        rules(tests + " not foo do go;", 2, at(tests.length() + 1));
        rules(tests + " mode 11 do go;", 2, at(tests.length() + 1));
        rules(tests + " foo do go;", 1, at(tests.length() + 1));
        rules(tests + " go;", 1, at(tests.length() + 1));
        rules(tests, 1, at(tests.length()));
        String acts = "do right left back face keep go set 0 drop 1 mode 2 add zero wipe";
        rulesHave(acts + ";", 1);
        rules(acts + " go;", 2, at(acts.length() + 1));
        rules(acts + " mode 77;", 2, at(acts.length() + 1));
        rules(acts + " do;", 1, at(acts.length() + 1));
        rules(acts, 1, at(acts.length()));
        String lines = "do go;".repeat(30);
        rulesHave(lines, 30);
        rulesHave(lines + "  \n", 30);
        rules(lines + " do foo", 2, at(lines.length() + 1));
        rules(lines + " if", 2, at(lines.length() + 1));
        rules(lines + " go", 1, at(lines.length() + 1));
        rules(lines + " foo", 1, at(lines.length() + 1));
        rules(lines + ";", 1, at(lines.length()));
    }

    private void goodNets() {
        netHas("", 0, 0);
        netHas(" \n", 0, 0);
        netHas("go=bump;", 0, 1);
        netHas("go = one;left = two;right = bell;keep = bump;", 0, 4);
        netHas("relay a = b;relay b = a;", 2, 2);
        netHas("relay abcdef = abcdef;", 1, 1);
        netHas("go = if and do;relay if = do;relay do = if;", 2, 5);
        netHas("relay goo = notbe or notbe; relay notbe = goo;", 2, 4);
        netHas("go = (bump or bell) and not (one or not two);", 0, 9);
        netHas("go=not(bump)and(bell);", 0, 4);
        netHas("\ngo\n=\nbump\n;\n", 0, 1);
    }

    private void wrongNets() {
        net(";", 1,
            "^");
        net("go;", 1,
            "  ^");
        net("go bump;", 1,
            "   ^");
        net("go = ;", 1,
            "     ^");
        net("go == bump;", 1,
            "    ^");
        net("relay = bump;", 1,
            "      ^");
        net("relay relay = bump;", 1,
            "      ^");
        net("relay and = bump;", 1,
            "      ^");
        net("relay two = bump;", 1,
            "      ^");
        net("relay a bump;", 1,
            "        ^");
        net("relay a1 = bump;", 1,
            "       ^");
        net("relay abcdefg = bump;", 1,
            "      ^");
        net("go = abcdefg;", 1,
            "     ^");
        net("abcdef = bump;", 1,
            "^");
        net("bump = bump;", 1,
            "^");
        net("go = go;", 1,
            "     ^");
        net("go = left;", 1,
            "     ^");
        net("go = relay;", 1,
            "     ^");
        net("go = bump bell;", 1,
            "          ^");
        net("go = bump not bell;", 1,
            "          ^");
        net("go = bump (bell);", 1,
            "          ^");
        net("go = bump or and bell;", 1,
            "             ^");
        net("go = or bump;", 1,
            "     ^");
        net("go = not;", 1,
            "        ^");
        net("go = not and bump;", 1,
            "         ^");
        net("go = ();", 1,
            "      ^");
        net("go = (bump;", 1,
            "          ^");
        net("go = bump);", 1,
            "         ^");
        net("go = (bump));", 1,
            "           ^");
        net("go = ((bump);", 1,
            "            ^");
        net("go = (bump or) bell;", 1,
            "             ^");
        net("go = 1;", 1,
            "     ^");
        net("go = bump = bell;", 1,
            "          ^");
        net("go = bump & bell;", 1,
            "          ^");
        net("go = bump;;", 1,
            "          ^");
        net("Go = bump;", 1,
            "^");
        net("go = bump\t;", 1,
            "         ^");
        net("relay", 1,
            "     ^");
        net("relay a", 1,
            "       ^");
        net("relay a =", 1,
            "         ^");
        net("go = bump", 1,
            "         ^");
        net("go = (bump ", 1,
            "           ^");
        net("go = x; left = ;", 1,
            "               ^");
    }

    private void limitsOfNets() {
        net("relay a = a;relay a = bump;", 3,
            "                  ^");
        net("go = bump; left = x;go = bell;", 3,
            "                    ^");
        net("keep = bump; keep", 3,
            "             ^");
        net("go = bump or x; relay y = z;", 4,
            "             ^");
        net("relay y = z; go = (x);", 4,
            "          ^");
        net("relay a = not (b and a) or c;", 4,
            "               ^");
        net("relay a = ab;", 4,
            "          ^");
        StringBuilder relays = new StringBuilder();
        for (int i = 0; i < 20; i++) {
            relays.append("relay ").append((char) ('a' + i)).append("=one;");
        }
        netHas(relays.toString(), 20, 20);
        netHas(relays + "go=t;", 20, 21);
        net(relays + " relay u = one;", 2, at(relays.length() + 1));
        net(relays + " relay a = one;", 2, at(relays.length() + 1));
        net(relays + " relay relay", 2, at(relays.length() + 1));
        net(relays + " u = one;", 1, at(relays.length() + 1));
        knots();
        brackets();
    }

    private void knots() {
        // 32 operands and 31 joints are 63 knots.
        String most = "go=one" + " or one".repeat(31);
        netHas(most + ";", 0, 63);
        netHas(most + ";left=two;", 0, 64);
        net(most + " or one;", 2, at(most.length() + 4));
        net(most + ";left=two;right=two;", 2, at(most.length() + 16));
        net(most + ";left=not two;", 2, at(most.length() + 10));
        net(most + ";left=two and", 2, at(most.length() + 10));
        net(most + ";left=two two;", 1, at(most.length() + 10));
        net(most + ";left=two;right=abcdefg", 1, at(most.length() + 16));
        net(most + ";left=two;right=x;", 2, at(most.length() + 16));
        String nots = "go=" + "not ".repeat(63);
        netHas(nots + "one;", 0, 64);
        net(nots + "not one;", 2, at(nots.length() + 4));
        RelayMouse x = new RelayMouse();
        Check.net(x, nots + "bump;");
        x.lift(0, 1);
        check.due("63 nots are one", x.pull(1), 1);
    }

    private void brackets() {
        netHas("go=((((((((one))))))));", 0, 1);
        net("go=(((((((((one)))))))));", 2,
            "           ^");
        netHas("go=(one)and(one)and(one)and(one);left=(one)or(one)or(one)or(one);", 0, 14);
        String eight = "go=(one)and(one)and(one)and(one);left=(one)or(one)or(one)or(one);right=";
        net(eight + "(one);", 2, at(eight.length()));
        net(eight + "one(", 1, at(eight.length() + 3));
        RelayMouse x = new RelayMouse();
        for (int i = 0; i < 3; i++) {
            check.due("each net has its own brackets", Check.net(x, "go=((((one))));left=((((one))));"), 0);
            check.due("each net has its own outputs", x.fault(0), 0);
            check.due("each net has its own knots", x.count(3), 2);
        }
    }
}
