/** Counts answers that are not as due, and feeds texts. */
final class Check {
    private final String name;
    private int asked;
    private int wrong;

    Check(String name) {
        this.name = name;
    }

    void due(String call, long got, long want) {
        asked++;
        if (got != want) {
            wrong++;
            System.out.println(name + ": " + call + " answered " + got + ", due is " + want);
        }
    }

    void due(String call, boolean got, boolean want) {
        due(call, got ? 1L : 0L, want ? 1L : 0L);
    }

    void end() {
        System.out.println(name + ": " + asked + " answers, " + wrong + " not as due");
        if (asked == 0 || wrong != 0) {
            System.exit(1);
        }
    }

    /** Feeds a text, blanks behind it, and answers its length. */
    static int feed(RelayMouse x, String text) {
        for (int at = 0; at < text.length(); at += 20) {
            x.feed(four(text, at), four(text, at + 4), four(text, at + 8), four(text, at + 12), four(text, at + 16));
        }
        return text.length();
    }

    static int four(String text, int from) {
        int number = 0;
        for (int i = from; i < from + 4; i++) {
            number = number << 8 | (i < text.length() ? text.charAt(i) & 255 : ' ');
        }
        return number;
    }

    static int rules(RelayMouse x, String text) {
        return x.rules(feed(x, text));
    }

    static int net(RelayMouse x, String text) {
        return x.net(feed(x, text));
    }

    /** What look throws: 1 IndexOutOfBoundsException, 2 NoSuchElementException, 0 nothing. */
    static int thrownByLook(RelayMouse x, int square, int what) {
        try {
            x.look(square, what);
            return 0;
        } catch (IndexOutOfBoundsException e) {
            return 1;
        } catch (java.util.NoSuchElementException e) {
            return 2;
        }
    }
}
