/** Texts of rules and nets, good and faulty: the fault and its place (promises 3, 4 and 5). */
public final class FaultsTest {
    private final Check check = new Check("FaultsTest");

    public static void main(String[] args) {
        FaultsTest test = new FaultsTest();
        test.goodRules();
        test.wrongRules();
        test.limitsOfRules();
        test.goodNets();
        test.wrongNets();
        test.limitsOfNets();
        test.bytes();
        test.wordsOfRules();
        test.numbers();
        test.eachLineAnew();
        test.wordsOfNets();
        test.names();
        test.eachKnot();
        test.whatIsNoKnot();
        test.placesOfFaults();
        test.nothingIsLeft();
        test.check.end();
    }

    /** The place is that of the sign '^' in the second text, which stands below the first. */
    private void rules(String text, int fault, String mark) {
        RelayMouse x = new RelayMouse();
        check.due("rules " + text, Check.rules(x, text), -1);
        check.due("fault of " + text, x.fault(0), fault);
        check.due("place in " + text, x.fault(1), mark.indexOf('^'));
        check.due("no rules by " + text, x.count(1), 0);
    }

    private void net(String text, int fault, String mark) {
        RelayMouse x = new RelayMouse();
        check.due("net " + text, Check.net(x, text), -1);
        check.due("fault of " + text, x.fault(0), fault);
        check.due("place in " + text, x.fault(1), mark.indexOf('^'));
        check.due("no net by " + text, x.count(3), 0);
    }

    private void rulesHave(String text, int lines) {
        RelayMouse x = new RelayMouse();
        check.due("rules " + text, Check.rules(x, text), lines);
        check.due("no fault of " + text, x.fault(0), 0);
        check.due("no place in " + text, x.fault(1), -1);
        check.due("lines of " + text, x.count(1), lines);
    }

    private void netHas(String text, int relays, int knots) {
        RelayMouse x = new RelayMouse();
        check.due("net " + text, Check.net(x, text), relays);
        check.due("no fault of " + text, x.fault(0), 0);
        check.due("no place in " + text, x.fault(1), -1);
        check.due("relays of " + text, x.count(2), relays);
        check.due("knots of " + text, x.count(3), knots);
    }

    private static String at(int place) {
        return " ".repeat(place) + "^";
    }

    private void goodRules() {
        rulesHave("", 0);
        rulesHave("  \n ", 0);
        rulesHave("do go;", 1);
        rulesHave("\ndo\ngo\n;\n", 1);
        rulesHave("do go ;do left;", 2);
        rulesHave("do mode5add;", 1);
        rulesHave("if mode0count7not yes1do go;", 1);
        rulesHave("if bump bell way mode 9 count 99 yes 2 do mode 9 set 2 drop 0;", 1);
        rulesHave("if mode 0000000000000000000009 do go;", 1);
        rulesHave("if mode 1 not mode 2 count 1 yes 1 do go go;", 1);
        rulesHave("if yes 0 yes 1 not yes 2 do right left back face keep go set 0 drop 1 mode 2 add zero wipe;", 1);
    }

    private void wrongRules() {
        rules("go;", 1,
              "^");
        rules(";", 1,
              "^");
        rules("do go;;", 1,
              "      ^");
        rules("if;", 1,
              "  ^");
        rules("if not do go;", 1,
              "       ^");
        rules("if bump;", 1,
              "       ^");
        rules("if bump if do go;", 1,
              "        ^");
        rules("if bump do;", 1,
              "          ^");
        rules("do bump;", 1,
              "   ^");
        rules("do go if;", 1,
              "      ^");
        rules("do go do left;", 1,
              "      ^");
        rules("do not;", 1,
              "   ^");
        rules("do set;", 1,
              "      ^");
        rules("do set go;", 1,
              "       ^");
        rules("do go 1;", 1,
              "      ^");
        rules("do set 1 1;", 1,
              "         ^");
        rules("if bump 1 do go;", 1,
              "        ^");
        rules("if mode do go;", 1,
              "        ^");
        rules("if set 1 do go;", 1,
              "   ^");
        rules("if 1 do go;", 1,
              "   ^");
        rules("1 do go;", 1,
              "^");
        rules("dogo;", 1,
              "^");
        rules("do goo;", 1,
              "   ^");
        rules("do g o;", 1,
              "   ^");
        rules("do Go;", 1,
              "   ^");
        rules("do go, left;", 1,
              "     ^");
        rules("do go\t;", 1,
              "     ^");
        rules("do go\r;", 1,
              "     ^");
        rules("do set -1;", 1,
              "       ^");
        rules("do go=;", 1,
              "     ^");
        rules("do (go);", 1,
              "   ^");
        rules("do " + (char) 233 + ";", 1,
              "   ^");
        rules("do " + (char) 0 + ";", 1,
              "   ^");
        rules("do relay;", 1,
              "   ^");
        rules("doooooooo go;", 1,
              "^");
        rules("do", 1,
              "  ^");
        rules("do  ", 1,
              "    ^");
        rules("if", 1,
              "  ^");
        rules("if not", 1,
              "      ^");
        rules("if mode", 1,
              "       ^");
        rules("if bump", 1,
              "       ^");
        rules("do go \n ", 1,
              "        ^");
        rules("do go;do go", 1,
              "           ^");
        rules("if bump do go; foo", 1,
              "               ^");
    }

    private void limitsOfRules() {
        rules("if mode 10 do go;", 2,
              "        ^");
        rules("if count 100 do go;", 2,
              "         ^");
        rules("if not yes 3 do go;", 2,
              "           ^");
        rules("do mode 10;", 2,
              "        ^");
        rules("do set 3;", 2,
              "       ^");
        rules("do drop 3;", 2,
              "        ^");
        rules("do drop 99999999999999999999999;", 2,
              "        ^");
        rules("do drop 4294967296;", 2,
              "        ^");
        rules("do mode 10 foo", 2,
              "        ^");
        rules("if bump bump do go;", 3,
              "        ^");
        rules("if bump not bump do go;", 3,
              "            ^");
        rules("if not way way do go;", 3,
              "           ^");
        rules("if mode 3 bell not mode 3 do go;", 3,
              "                   ^");
        rules("if yes 1 yes 2 yes 1 do go;", 3,
              "               ^");
        rules("if count 7 count 07 foo", 3,
              "           ^");
        rules("if mode 3 mode 10 do go;", 2,
              "               ^");
        rules("if mode 3 mode do go;", 1,
              "               ^");
        rulesHave("if count 3 yes 2 mode 3 mode 2 do go;", 1);
        rulesHave("if bump do go;if bump do go;", 2);
        String tests = "if mode 0 mode 1 mode 2 mode 3 mode 4 mode 5 mode 6 mode 7 mode 8 mode 9 bump bell";
        rulesHave(tests + " do go;", 1);
        rules(tests + " way do go;", 2, at(tests.length() + 1));
        rules(tests + " not way do go;", 2, at(tests.length() + 1));
        rules(tests + " bump do go;", 2, at(tests.length() + 1));
        rules(tests + " not bump do go;", 2, at(tests.length() + 1));
        rules(tests + " not foo do go;", 2, at(tests.length() + 1));
        rules(tests + " mode 11 do go;", 2, at(tests.length() + 1));
        rules(tests + " foo do go;", 1, at(tests.length() + 1));
        rules(tests + " go;", 1, at(tests.length() + 1));
        rules(tests, 1, at(tests.length()));
        String acts = "do right left back face keep go set 0 drop 1 mode 2 add zero wipe";
        rulesHave(acts + ";", 1);
        rules(acts + " go;", 2, at(acts.length() + 1));
        rules(acts + " mode 77;", 2, at(acts.length() + 1));
        rules(acts + " do;", 1, at(acts.length() + 1));
        rules(acts, 1, at(acts.length()));
        String lines = "do go;".repeat(30);
        rulesHave(lines, 30);
        rulesHave(lines + "  \n", 30);
        rules(lines + " do foo", 2, at(lines.length() + 1));
        rules(lines + " if", 2, at(lines.length() + 1));
        rules(lines + " go", 1, at(lines.length() + 1));
        rules(lines + " foo", 1, at(lines.length() + 1));
        rules(lines + ";", 1, at(lines.length()));
    }

    private void goodNets() {
        netHas("", 0, 0);
        netHas(" \n", 0, 0);
        netHas("go=bump;", 0, 1);
        netHas("go = one;left = two;right = bell;keep = bump;", 0, 4);
        netHas("relay a = b;relay b = a;", 2, 2);
        netHas("relay abcdef = abcdef;", 1, 1);
        netHas("go = if and do;relay if = do;relay do = if;", 2, 5);
        netHas("relay goo = notbe or notbe; relay notbe = goo;", 2, 4);
        netHas("go = (bump or bell) and not (one or not two);", 0, 9);
        netHas("go=not(bump)and(bell);", 0, 4);
        netHas("\ngo\n=\nbump\n;\n", 0, 1);
    }

    private void wrongNets() {
        net(";", 1,
            "^");
        net("go;", 1,
            "  ^");
        net("go bump;", 1,
            "   ^");
        net("go = ;", 1,
            "     ^");
        net("go == bump;", 1,
            "    ^");
        net("relay = bump;", 1,
            "      ^");
        net("relay relay = bump;", 1,
            "      ^");
        net("relay and = bump;", 1,
            "      ^");
        net("relay two = bump;", 1,
            "      ^");
        net("relay a bump;", 1,
            "        ^");
        net("relay a1 = bump;", 1,
            "       ^");
        net("relay abcdefg = bump;", 1,
            "      ^");
        net("go = abcdefg;", 1,
            "     ^");
        net("abcdef = bump;", 1,
            "^");
        net("bump = bump;", 1,
            "^");
        net("go = go;", 1,
            "     ^");
        net("go = left;", 1,
            "     ^");
        net("go = relay;", 1,
            "     ^");
        net("go = bump bell;", 1,
            "          ^");
        net("go = bump not bell;", 1,
            "          ^");
        net("go = bump (bell);", 1,
            "          ^");
        net("go = bump or and bell;", 1,
            "             ^");
        net("go = or bump;", 1,
            "     ^");
        net("go = not;", 1,
            "        ^");
        net("go = not and bump;", 1,
            "         ^");
        net("go = ();", 1,
            "      ^");
        net("go = (bump;", 1,
            "          ^");
        net("go = bump);", 1,
            "         ^");
        net("go = (bump));", 1,
            "           ^");
        net("go = ((bump);", 1,
            "            ^");
        net("go = (bump or) bell;", 1,
            "             ^");
        net("go = 1;", 1,
            "     ^");
        net("go = bump = bell;", 1,
            "          ^");
        net("go = bump & bell;", 1,
            "          ^");
        net("go = bump;;", 1,
            "          ^");
        net("Go = bump;", 1,
            "^");
        net("go = bump\t;", 1,
            "         ^");
        net("relay", 1,
            "     ^");
        net("relay a", 1,
            "       ^");
        net("relay a =", 1,
            "         ^");
        net("go = bump", 1,
            "         ^");
        net("go = (bump ", 1,
            "           ^");
        net("go = x; left = ;", 1,
            "               ^");
    }

    private void limitsOfNets() {
        net("relay a = a;relay a = bump;", 3,
            "                  ^");
        net("go = bump; left = x;go = bell;", 3,
            "                    ^");
        net("keep = bump; keep", 3,
            "             ^");
        net("go = bump or x; relay y = z;", 4,
            "             ^");
        net("relay y = z; go = (x);", 4,
            "          ^");
        net("relay a = not (b and a) or c;", 4,
            "               ^");
        net("relay a = ab;", 4,
            "          ^");
        StringBuilder relays = new StringBuilder();
        for (int i = 0; i < 20; i++) {
            relays.append("relay ").append((char) ('a' + i)).append("=one;");
        }
        netHas(relays.toString(), 20, 20);
        netHas(relays + "go=t;", 20, 21);
        net(relays + " relay u = one;", 2, at(relays.length() + 1));
        net(relays + " relay a = one;", 2, at(relays.length() + 1));
        net(relays + " relay relay", 2, at(relays.length() + 1));
        net(relays + " u = one;", 1, at(relays.length() + 1));
        knots();
        brackets();
    }

    private void knots() {
        // 32 operands and 31 joints are 63 knots.
        String most = "go=one" + " or one".repeat(31);
        netHas(most + ";", 0, 63);
        netHas(most + ";left=two;", 0, 64);
        net(most + " or one;", 2, at(most.length() + 4));
        net(most + ";left=two;right=two;", 2, at(most.length() + 16));
        net(most + ";left=not two;", 2, at(most.length() + 10));
        net(most + ";left=two and", 2, at(most.length() + 10));
        net(most + ";left=two two;", 1, at(most.length() + 10));
        net(most + ";left=two;right=abcdefg", 1, at(most.length() + 16));
        net(most + ";left=two;right=x;", 2, at(most.length() + 16));
        String nots = "go=" + "not ".repeat(63);
        netHas(nots + "one;", 0, 64);
        net(nots + "not one;", 2, at(nots.length() + 4));
        RelayMouse x = new RelayMouse();
        Check.net(x, nots + "bump;");
        x.lift(0, 1);
        check.due("63 nots are one", x.pull(1), 1);
    }

    private void brackets() {
        netHas("go=((((((((one))))))));", 0, 1);
        net("go=(((((((((one)))))))));", 2,
            "           ^");
        netHas("go=(one)and(one)and(one)and(one);left=(one)or(one)or(one)or(one);", 0, 14);
        String eight = "go=(one)and(one)and(one)and(one);left=(one)or(one)or(one)or(one);right=";
        net(eight + "(one);", 2, at(eight.length()));
        net(eight + "one(", 1, at(eight.length() + 3));
        RelayMouse x = new RelayMouse();
        for (int i = 0; i < 3; i++) {
            check.due("each net has its own brackets", Check.net(x, "go=((((one))));left=((((one))));"), 0);
            check.due("each net has its own outputs", x.fault(0), 0);
            check.due("each net has its own knots", x.count(3), 2);
        }
    }

    /** "Words: small letters in a row; N: digits. Blanks 10, 32." Any other byte is no TOKEN, or a sign. */
    private void bytes() {
        for (int b = 0; b < 256; b++) {
            String sign = "" + (char) b;
            boolean blank = b == 10 || b == 32;
            boolean letter = b >= 'a' && b <= 'z';
            if (blank) {
                rulesHave("do go" + sign + ";", 1);
                rulesHave("do" + sign + "go;" + sign, 1);
                netHas(sign + "go" + sign + "=" + sign + "one" + sign + ";", 0, 1);
            } else if (b == ';') {
                rules("do go" + sign + ";", 1, at(6));
                net("go=one" + sign + ";", 1, at(7));
            } else {
                rules("do go" + sign + ";", 1, at(letter ? 3 : 5));
                rules("do go;" + sign, 1, at(6));
                rules(sign + " do go;", 1, at(0));
                net("go=one" + sign + " one;", 1, at(letter ? 8 : 6));
                net("go=one;" + sign, 1, at(7));
                net(sign + " go=one;", 1, at(0));
            }
        }
    }

    /** Each word of RULES where each other one may stand. */
    private void wordsOfRules() {
        String[] tests = {"bump", "bell", "way", "mode", "count", "yes"};
        String[] acts = {"right", "left", "back", "face", "keep", "go", "set", "drop", "mode", "add", "zero", "wipe"};
        String[] others = {"if", "do", "not", "relay", "and", "or", "one", "two", "x"};
        for (String act : acts) {
            boolean numbered = act.equals("set") || act.equals("drop") || act.equals("mode");
            String whole = numbered ? act + " 1" : act;
            rulesHave("do " + whole + ";", 1);
            rulesHave("if way do " + whole + " " + whole + ";", 1);
            if (numbered) {
                rules("do " + act + ";", 1, at(3 + act.length()));
                rules("do " + act + " go;", 1, at(4 + act.length()));
            } else {
                rules("do " + act + " 1;", 1, at(4 + act.length()));
            }
            if (!act.equals("mode")) {
                rules("if " + whole + " do go;", 1, at(3));
                rules("if not " + whole + " do go;", 1, at(7));
                rules("if way " + whole + " do go;", 1, at(7));
            }
        }
        for (String test : tests) {
            boolean numbered = test.equals("count") || test.equals("yes") || test.equals("mode");
            String whole = numbered ? test + " 1" : test;
            rulesHave("if " + whole + " do go;", 1);
            rulesHave("if not " + whole + " do go;", 1);
            rules("if " + whole + " " + whole + " do go;", 3, at(4 + whole.length()));
            rules("if not " + whole + " " + whole + " do go;", 3, at(8 + whole.length()));
            rules("if " + whole + " not " + whole + " do go;", 3, at(8 + whole.length()));
            rules("if not " + whole + " not " + whole + " do go;", 3, at(12 + whole.length()));
            if (!test.equals("mode")) {
                rules("do " + whole + ";", 1, at(3));
                rules("do go " + whole + ";", 1, at(6));
            }
        }
        for (String other : others) {
            rules("do " + other + ";", 1, at(3));
            rules("do go " + other + ";", 1, at(6));
            if (!other.equals("not")) {
                rules("if " + other + " do go;", 1, at(3));
            }
            rules("if not " + other + " do go;", 1, at(7));
            if (!other.equals("do") && !other.equals("if")) {
                rules(other + " go;", 1, at(0));
                rules("do go;" + other + " go;", 1, at(6));
            }
        }
    }

    /** "a number beyond what is said": the last that isn't, the first that is. */
    private void numbers() {
        String[] heads = {"if mode ", "if count ", "if yes ", "do mode ", "do set ", "do drop "};
        int[] most = {9, 99, 2, 9, 2, 2};
        for (int i = 0; i < heads.length; i++) {
            String tail = heads[i].startsWith("if") ? " do go;" : ";";
            for (int n = 0; n <= most[i]; n++) {
                rulesHave(heads[i] + n + tail, 1);
            }
            for (String number : new String[] {"" + (most[i] + 1), "100", "256", "65536", "2147483648", "4294967296",
                "18446744073709551616", "0000000000000000000000000000000100", "1" + "0".repeat(60)}) {
                rules(heads[i] + number + tail, 2, at(heads[i].length()));
            }
            rulesHave(heads[i] + "000" + tail, 1);
            rulesHave(heads[i] + "0".repeat(200) + most[i] + tail, 1);
            rules(heads[i] + "1 1" + tail, 1, at(heads[i].length() + 2));
            rules(heads[i] + "-1" + tail, 1, at(heads[i].length()));
            rules(heads[i] + "+1" + tail, 1, at(heads[i].length()));
            rules(heads[i] + "1.0" + tail, 1, at(heads[i].length() + 1));
        }
        // One place, two faults: a number that can't stand there and is beyond.
        rules("do go 100;", 1, at(6));
        rules("if bump 100 do go;", 1, at(8));
    }

    /** TESTS and ACTS are counted, and told already, in one LINE. */
    private void eachLineAnew() {
        String tests = "if mode0mode1mode2mode3mode4mode5mode6mode7mode8mode9bump bell";
        String acts = "do add add add add add add add add add add add add";
        String first = tests + " " + acts + ";";
        rulesHave(first + first, 2);
        rules(first + tests + " way " + acts + ";", 2, at(first.length() + tests.length() + 1));
        rules(first + tests + " " + acts + " add;", 2, at(first.length() + tests.length() + acts.length() + 2));
        rules(first + acts + " go;", 2, at(first.length() + acts.length() + 1));
        // A twelfth that is told already is that; a thirteenth is too much.
        String eleven = "if mode0mode1mode2mode3mode4mode5mode6mode7mode8mode9bump";
        rules(eleven + " bump do go;", 3, at(eleven.length() + 1));
        rules(eleven + " not bump do go;", 3, at(eleven.length() + 5));
        rules(tests + " bump do go;", 2, at(tests.length() + 1));
        // A line that is too much is told ahead of what is wrong in it.
        String lines = "if way do go;".repeat(30);
        rulesHave(lines, 30);
        rules(lines + "if way way do go;", 2, at(lines.length()));
        rules(lines + "do set 9;", 2, at(lines.length()));
        rules(lines + "\n do", 2, at(lines.length() + 2));
        String most = "do go;".repeat(29);
        rulesHave(most + "if way do go;", 30);
        rules(most + "if way way do go;", 3, at(most.length() + 7));
    }

    /** "none of these words": relay go left right keep or and not bump bell one two. */
    private void wordsOfNets() {
        String[] words = {"relay", "go", "left", "right", "keep", "or", "and", "not", "bump", "bell", "one", "two"};
        for (String word : words) {
            boolean output = "go left right keep".contains(word);
            boolean input = word.equals("bump") || word.equals("bell") || word.equals("one") || word.equals("two");
            net("relay " + word + " = one;", 1, at(6));
            if (input) {
                netHas("relay a = " + word + ";", 1, 1);
                netHas("keep = a and not " + word + ";relay a = (" + word + ");", 1, 5);
            } else if (!word.equals("not")) {
                net("relay a = " + word + ";", 1, at(10));
                net("relay a = not " + word + ";", 1, at(14));
                net("relay a = (" + word + ");", 1, at(11));
                net("relay a = one or " + word + ";", 1, at(17));
            }
            if (output) {
                netHas(word + " = one;", 0, 1);
                net(word + " = one;" + word + " = one;", 3, at(word.length() + 7));
            } else if (!word.equals("relay")) {
                net(word + " = one;", 1, at(0));
            }
            if (!word.equals("or") && !word.equals("and")) {
                net("go = one " + word + " two;", 1, at(9));
            }
            netHas("relay " + word + "x = " + word + "x;", 1, 1);
        }
        String[] rules = {"if", "do", "way", "mode", "count", "yes", "back", "face", "set", "drop", "add", "zero", "wipe"};
        for (String word : rules) {
            netHas("relay " + word + " = " + word + ";", 1, 1);
        }
    }

    /** "W: a name of 1 .. 6 small letters". */
    private void names() {
        for (int length = 1; length <= 9; length++) {
            for (char letter : new char[] {'a', 'm', 'z'}) {
                String name = ("" + letter).repeat(length);
                if (length <= 6) {
                    netHas("relay " + name + " = not " + name + ";", 1, 2);
                    net("relay x = x;relay " + name + " = " + name + ";relay " + name + " = one;", 3,
                        at(12 + 6 + length + 3 + length + 1 + 6));
                    net("go = " + name + ";", 4, at(5));
                } else {
                    net("relay " + name + " = one;", 1, at(6));
                    net("go = " + name + ";", 1, at(5));
                    net("relay a = a or " + name + ";", 1, at(15));
                    net(name + " = one;", 1, at(0));
                }
            }
        }
        // Names that differ in one letter, in their length, or in the row of their letters are others.
        netHas("relay a = aa;relay aa = aaa;relay aaa = aaaaaa;relay aaaaaa = a;", 4, 4);
        netHas("relay ab = ba;relay ba = ab;relay zzzzzz = zzzzzy;relay zzzzzy = azzzzz;relay azzzzz = a;relay a=a;", 6, 6);
        net("relay ab = abc;", 4, at(11));
        net("relay abc = ab;", 4, at(12));
        net("relay abcdef = abcdeg;", 4, at(15));
        net("relay abcdef = bbcdef;", 4, at(15));
    }

    /** "a 65th KNOT of the whole text (each not, and, or, bump, bell, one, two, W in E)". */
    private void eachKnot() {
        // 62 knots: 31 operands, 30 joints and a relay's own.
        String some = "relay a=a;go=one" + " and one".repeat(30) + ";";
        netHas(some, 1, 62);
        netHas(some + "left=not a;", 1, 64);
        for (String operand : new String[] {"bump", "bell", "one", "two", "a"}) {
            netHas(some + "left=not " + operand + ";", 1, 64);
            netHas(some + "left=" + operand + ";right=" + operand + ";", 1, 64);
            net(some + "left=not not " + operand + ";", 2, at(some.length() + 13));
            String full = some + "left=" + operand + ";right=a;keep=";
            net(full + operand + ";", 2, at(full.length()));
            net(full + "not " + operand + ";", 2, at(full.length()));
            net(full + "(" + operand + ");", 2, at(full.length() + 1));
        }
        for (String joint : new String[] {"and", "or"}) {
            net(some + "left=a;right=a " + joint + " a;", 2, at(some.length() + 15));
            net(some + "left=a " + joint + " a;", 2, at(some.length() + 8 + joint.length()));
        }
        net(some + "left=not not not a;", 2, at(some.length() + 13));
        net(some + "left=a;right=a;keep=b;", 2, at(some.length() + 20));
        net(some + "left=a;right=b;keep=;", 1, at(some.length() + 20));
        net(some + "left=a;right=b;", 4, at(some.length() + 13));
    }

    /** What is told, '=', ';' and '(' are no KNOTS. */
    private void whatIsNoKnot() {
        netHas("relay a=a;relay b=a;relay c=a;", 3, 3);
        netHas("go=a;left=a;right=a;keep=a;relay a=a;", 1, 5);
        netHas("go=((a));left=(((a)));right=(a)or(a);relay a=(a);", 1, 6);
        netHas("relay a=not(not(not(a)));", 1, 4);
        netHas("relay a=a and(a or a)and a;", 1, 7);
    }

    /** "FAULTS, the first along the text (of one place the least)". */
    private void placesOfFaults() {
        rules("do go foo;do set 9;", 1, at(6));
        rules("do set 9;do go foo;", 2, at(7));
        rules("if bump bump do set 9;", 3, at(8));
        rules("if mode 1 mode 1 mode 99 do go;", 3, at(10));
        rules("if mode 1 mode 99 mode 1 do go;", 2, at(15));
        rules("if mode 1 mode", 1, at(14));
        rules("if mode 1 mode  ", 1, at(16));
        rules("if mode 1 mode 1", 3, at(10));
        rules("if count 10 count 1 do go; foo", 1, at(27));
        net("go=one;go=foo", 3, at(7));
        net("go=foo;go=one", 3, at(7));
        net("go=foo;left=abcdefg;", 1, at(12));
        net("go=foo;relay a=bar;relay a=foo;", 3, at(25));
        net("go=foo;left=bar;", 4, at(3));
        net("left=not (not foo and bar);go=baz;", 4, at(14));
        net("relay b=a;relay c=d;relay a=e;", 4, at(18));
        net("relay foo", 1, at(9));
        net("relay foo  \n", 1, at(12));
        net("go=(one or", 1, at(10));
        net("go=(one or two", 1, at(14));
        net("go=(one or two)", 1, at(15));
    }

    /** A text that breaks off, wherever, leaves nothing behind for the next one. */
    private void nothingIsLeft() {
        RelayMouse x = new RelayMouse();
        String net = "relay a = not (b and (not a or bump)); go = not ((a)); left = one; relay b = two and not (a);";
        for (int n = 1; n < net.length(); n++) {
            Check.net(x, net.substring(0, n));
            check.due("the whole net behind its first " + n, Check.net(x, net), 2);
            check.due("knots behind its first " + n, x.count(3), 14);
            check.due("a small net", Check.net(x, "relay a=a;"), 1);
            check.due("its knots", x.count(3), 1);
        }
        String rules = "if not bump mode 3 not count 7 do set 1 go mode 2; if bump yes 2 do go;";
        for (int n = 1; n < rules.length(); n++) {
            Check.rules(x, rules.substring(0, n));
            check.due("the whole rules behind their first " + n, Check.rules(x, rules), 2);
            check.due("no fault", x.fault(0), 0);
            check.due("one small line", Check.rules(x, "if bump do go;"), 1);
        }
        String[] full = {"do go;".repeat(30), "do go;".repeat(29) + "do go go go go go go go go go go go go;"};
        for (String text : full) {
            check.due("full rules", Check.rules(x, text), 30);
            check.due("and again", Check.rules(x, text), 30);
        }
    }
}
