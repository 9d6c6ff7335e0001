import java.util.NoSuchElementException;

/**
 * A mouse on a floor of squares, led by rules or by a net of relays.
 * The words in capitals of the document (../shared/DOC.md) are used here in small letters.
 */
public final class RelayMouse {
    public static final int NONE = -1;
    public static final int NEVER = -2;

    private static final int TOO_FEW_BYTES = -2;
    private static final int MOST_TICKS = 5000;
    private static final int LONG_RUN = 2000;
    private static final int IMAGES = 4;

    private final Text text = new Text();
    private final RulesReader rulesReader = new RulesReader(text);
    private final NetReader netReader = new NetReader(text);
    private Rules orders = new Rules();
    private Net wiring = new Net();

    private final Floor ground = new Floor();
    private final Mouse walker = new Mouse();
    private final Coils coils = new Coils();

    private final Floor[] keptGrounds = new Floor[IMAGES];
    private final Mouse[] keptWalkers = new Mouse[IMAGES];
    private final int[] keptHolding = new int[IMAGES];
    private int kept;

    private final Mouse scout = new Mouse();
    private final SmallFloors smallFloors = new SmallFloors();
    private final Inquest inquest = new Inquest();

    public RelayMouse() {
        for (int k = 0; k < IMAGES; k++) {
            keptGrounds[k] = new Floor();
            keptWalkers[k] = new Mouse();
        }
    }

    public int feed(int a, int b, int c, int d, int e) {
        if (!text.hasRoomFor(20)) {
            return NONE;
        }
        text.append(a);
        text.append(b);
        text.append(c);
        text.append(d);
        text.append(e);
        return text.fed;
    }

    public int rules(int n) {
        if (n < 0 || n > text.fed) {
            return TOO_FEW_BYTES;
        }
        if (!rulesReader.read(n)) {
            return NONE;
        }
        orders = rulesReader.exchange(orders);
        walker.line = NONE;
        smallFloors.forget();
        return orders.lines;
    }

    public int net(int n) {
        if (n < 0 || n > text.fed) {
            return TOO_FEW_BYTES;
        }
        if (!netReader.read(n)) {
            return NONE;
        }
        wiring = netReader.exchange(wiring);
        coils.renew();
        kept = 0;
        return wiring.relays;
    }

    public int fault(int what) {
        switch (what) {
            case 0:
                return text.fault;
            case 1:
                return text.faultPlace;
            default:
                return NONE;
        }
    }

    public boolean floor(int w, int h) {
        if (w < Floor.LEAST || w > Floor.MOST || h < Floor.LEAST || h > Floor.MOST) {
            return false;
        }
        ground.lay(w, h);
        walker.setDownWiped(0);
        walker.line = NONE;
        coils.release();
        // The document says "all as at first" and doesn't except the tape.
        text.fed = 0;
        kept = 0;
        return true;
    }

    public boolean wall(int square, int side, boolean on) {
        if (!ground.has(square) || !isSide(side) || ground.isRim(square, side)) {
            return false;
        }
        if (ground.isWalled(square, side) == on) {
            return false;
        }
        ground.putWall(square, side, on);
        return true;
    }

    public boolean bell(int square) {
        if (!ground.has(square)) {
            return false;
        }
        ground.bellSquare = square;
        return true;
    }

    public boolean lift(int square, int side) {
        if (!ground.has(square) || !isSide(side)) {
            return false;
        }
        walker.square = square;
        walker.heading = side;
        return true;
    }

    public int wipe() {
        int marked = walker.markedSquares();
        walker.clearSquares();
        walker.mode = 0;
        walker.counter = 0;
        coils.release();
        return marked;
    }

    public int tick(int n) {
        if (n < 0 || n > MOST_TICKS) {
            return NONE;
        }
        int done = 0;
        for (int i = 0; i < n; i++) {
            walker.obey(orders, ground);
            if (walker.line != NONE) {
                done++;
            }
        }
        return done;
    }

    public int run(int n) {
        if (n < 0 || n > MOST_TICKS) {
            return NONE;
        }
        return walker.arrive(orders, ground, n);
    }

    public int mouse(int what) {
        switch (what) {
            case 0:
                return walker.square;
            case 1:
                return walker.heading;
            case 2:
                return walker.mode;
            case 3:
                return walker.counter;
            case 4:
                return walker.line;
            default:
                return NONE;
        }
    }

    public int look(int square, int what) throws IndexOutOfBoundsException, NoSuchElementException {
        if (!ground.has(square)) {
            throw new IndexOutOfBoundsException("no such square");
        }
        switch (what) {
            case 0:
                return walker.wayOf(square);
            case 1:
                return walker.yesesOf(square);
            case 2:
                return ground.wallsOf(square);
            case 3:
                return ground.far(square);
            default:
                throw new NoSuchElementException("no such what");
        }
    }

    public int comes(int what) {
        if (what < 0 || what > 1) {
            return NONE;
        }
        long able = ground.reach();
        int lost = 0;
        int first = NONE;
        for (int square = 0; square < ground.squares; square++) {
            if ((able >>> square & 1L) != 0L && scoutRun(square, true) == NEVER) {
                lost++;
                if (first == NONE) {
                    first = square;
                }
            }
        }
        return what == 0 ? lost : first;
    }

    public int second(int square, int what) {
        if (!ground.has(square) || what < 0 || what > 3) {
            return NONE;
        }
        int ticks = scoutRun(square, true);
        boolean ofSecond = what == 1 || what == 3;
        if (ofSecond && ticks != NEVER) {
            ticks = scoutRun(square, false);
        }
        if (ticks == NEVER) {
            return NEVER;
        }
        return what < 2 ? ticks : scout.went;
    }

    public int held(int w, int h, int what) {
        if (!SmallFloors.isSmall(w, h) || what < 0 || what > 1) {
            return NONE;
        }
        return smallFloors.heldBy(orders, w, h, what);
    }

    public int longest(int w, int h, int what) {
        if (!SmallFloors.isSmall(w, h) || what < 0 || what > 2) {
            return NONE;
        }
        return smallFloors.longestBy(orders, w, h, what);
    }

    public int needs(int yes, int w, int h) {
        if (!SmallFloors.isSmall(w, h) || yes < 0 || yes >= Mouse.YESES) {
            return NONE;
        }
        return smallFloors.isNeeded(orders, yes, w, h) ? 1 : 0;
    }

    public int knows(int square) {
        if (!ground.has(square)) {
            return NONE;
        }
        int at = square;
        for (int steps = 0; steps < ground.squares; steps++) {
            if (at == ground.bellSquare) {
                return steps;
            }
            int way = walker.wayOf(at);
            if (ground.isWalled(at, way)) {
                return NONE;
            }
            at = ground.ahead(at, way);
        }
        return NONE;
    }

    public int pull(int n) {
        if (n < 0 || n > MOST_TICKS) {
            return NONE;
        }
        walker.went = 0;
        for (int i = 0; i < n; i++) {
            coils.step(wiring, walker, ground);
        }
        return walker.went;
    }

    public int pullRun(int n) {
        if (n < 0 || n > MOST_TICKS) {
            return NONE;
        }
        for (int ticks = 0; ticks < n; ticks++) {
            if (walker.square == ground.bellSquare) {
                return ticks;
            }
            coils.step(wiring, walker, ground);
        }
        return walker.square == ground.bellSquare ? n : NEVER;
    }

    public int relays() {
        return coils.holding;
    }

    public int race() {
        return coils.firstRace(wiring);
    }

    public boolean stick(int relay, int what) {
        if (relay < 0 || relay >= wiring.relays || what < 0 || what > 2) {
            return false;
        }
        if (what == 2) {
            coils.free(relay);
        } else {
            coils.jam(relay, what == 1);
        }
        return true;
    }

    public int stuck() {
        return coils.jammed;
    }

    public int same(int t) {
        if (!Inquest.isLength(t)) {
            return NONE;
        }
        inquest.begin(wiring, walker, ground, coils);
        return inquest.firstDifference(orders, t);
    }

    public int suspects(int t, int what) {
        if (!Inquest.isLength(t) || what < 0 || what > 1) {
            return NONE;
        }
        inquest.begin(wiring, walker, ground, coils);
        inquest.findSuspects(t);
        return what == 0 ? inquest.suspectsOff : inquest.suspectsOn;
    }

    public int trial(int t, int what) {
        if (!Inquest.isLength(t) || what < 0 || what > 1) {
            return NONE;
        }
        inquest.begin(wiring, walker, ground, coils);
        inquest.findSuspects(t);
        if (inquest.suspectCount() < 2) {
            return NONE;
        }
        inquest.findBestWall(t);
        return what == 0 ? inquest.bestWall : inquest.fewestLeft;
    }

    public boolean keep(int k) {
        if (k < 0 || k >= IMAGES) {
            return false;
        }
        keptGrounds[k].copyFrom(ground);
        keptWalkers[k].copyFrom(walker);
        keptHolding[k] = coils.holding;
        kept |= 1 << k;
        return true;
    }

    public boolean restore(int k) {
        if (k < 0 || k >= IMAGES || (kept >> k & 1) == 0) {
            return false;
        }
        ground.copyFrom(keptGrounds[k]);
        walker.copyFrom(keptWalkers[k]);
        coils.settle(keptHolding[k]);
        return true;
    }

    public int count(int what) {
        switch (what) {
            case 0:
                return ground.squares;
            case 1:
                return orders.lines;
            case 2:
                return wiring.relays;
            case 3:
                return wiring.knots;
            case 4:
                return ground.standingWalls();
            case 5:
                return ground.bellSquare;
            case 6:
                return Integer.bitCount(kept);
            default:
                return NONE;
        }
    }

    private static boolean isSide(int side) {
        return side >= 0 && side < Floor.SIDES;
    }

    private int scoutRun(int square, boolean wiped) {
        if (wiped) {
            scout.setDownWiped(square);
        } else {
            scout.setDown(square);
        }
        scout.went = 0;
        return scout.arrive(orders, ground, LONG_RUN);
    }

    /** The tape, the tokens of the text that is taken from it, and the first fault found there. */
    private static final class Text {
        static final int ROOM = 500;
        static final int END = 0;
        static final int WORD = 1;
        static final int NUMBER = 2;
        static final int SIGN = 3;
        private static final int LONGEST_WORD = 6;
        // Above every number that a text may say.
        private static final int HUGE = 1000;

        int fed;
        int fault;
        int faultPlace = NONE;
        // The token that is read now: its kind, its place, and its value: a word's letters
        // packed, the number, or the sign. A word that the vocabulary has: its index there.
        int kind;
        int place;
        int value;
        int word = NONE;
        private final int[] bytes = new int[ROOM];
        // The tokens are found ahead of reading, so that readers needn't call deep.
        private final int[] kinds = new int[ROOM + 1];
        private final int[] places = new int[ROOM + 1];
        private final int[] values = new int[ROOM + 1];
        private final int[] words = new int[ROOM + 1];
        private int tokens;
        private int next;
        private int end;
        private int at;

        boolean hasRoomFor(int more) {
            return fed + more <= ROOM;
        }

        void append(int number) {
            for (int shift = 24; shift >= 0 && fed < ROOM; shift -= 8) {
                bytes[fed] = number >>> shift & 255;
                fed++;
            }
        }

        /** Takes n bytes off the tape, which is empty then, and reads the first token. */
        void open(int n, String vocabulary) {
            end = n;
            at = 0;
            tokens = 0;
            next = 0;
            fed = 0;
            fault = 0;
            faultPlace = NONE;
            for (int i = 0; i < ROOM && at < end; i++) {
                findToken(vocabulary);
            }
            advance();
        }

        void refuse(int what, int where) {
            if (fault == 0) {
                fault = what;
                faultPlace = where;
            }
        }

        boolean isSign(char sign) {
            return kind == SIGN && value == sign;
        }

        void advance() {
            if (next >= 0 && next < tokens) {
                kind = kinds[next];
                place = places[next];
                value = values[next];
                word = words[next];
                next++;
            } else {
                kind = END;
                place = end;
                value = 0;
                word = NONE;
            }
        }

        private void findToken(String vocabulary) {
            int first = byteAt(at);
            int from = at;
            if (isLetter(first)) {
                int packed = packWord();
                addToken(WORD, from, packed, indexOfWord(packed, vocabulary));
            } else if (isDigit(first)) {
                addToken(NUMBER, from, packNumber(), NONE);
            } else {
                at++;
                if (!isBlank(first)) {
                    addToken(SIGN, from, first, NONE);
                }
            }
        }

        private void addToken(int ofKind, int where, int what, int index) {
            if (tokens < kinds.length) {
                kinds[tokens] = ofKind;
                places[tokens] = where;
                values[tokens] = what;
                words[tokens] = index;
                tokens++;
            }
        }

        /** The letters in a row, five bits each; 0, which no word is, if they are too many. */
        private int packWord() {
            int from = at;
            int packed = 0;
            while (at < end && isLetter(byteAt(at))) {
                packed = at - from < LONGEST_WORD ? packed << 5 | letterCode(byteAt(at)) : 0;
                at++;
            }
            return packed;
        }

        private int packNumber() {
            int number = 0;
            while (at < end && isDigit(byteAt(at))) {
                number = Math.min(HUGE, number * 10 + byteAt(at) - '0');
                at++;
            }
            return number;
        }

        /** The vocabulary's words have a blank behind each of them. */
        private static int indexOfWord(int packed, String vocabulary) {
            int index = 0;
            int candidate = 0;
            for (int i = 0; i < vocabulary.length(); i++) {
                char sign = vocabulary.charAt(i);
                if (sign != ' ') {
                    candidate = candidate << 5 | letterCode(sign);
                } else if (candidate == packed) {
                    return index;
                } else {
                    index++;
                    candidate = 0;
                }
            }
            return NONE;
        }

        private int byteAt(int i) {
            return i >= 0 && i < end && i < ROOM ? bytes[i] : NONE;
        }

        private static int letterCode(int letter) {
            return letter - 'a' + 1;
        }

        private static boolean isBlank(int sign) {
            return sign == 10 || sign == 32;
        }

        private static boolean isLetter(int sign) {
            return sign >= 'a' && sign <= 'z';
        }

        private static boolean isDigit(int sign) {
            return sign >= '0' && sign <= '9';
        }
    }

    /** The lines of the rules: the tests of each as sets of the mouse's signs, and its acts. */
    private static final class Rules {
        static final int MOST_LINES = 30;
        static final int MOST_ACTS = 12;
        static final int MODES = 10;
        static final int MOST_COUNT = 99;

        // A sign is a bit: the mode's number, then these.
        static final int SIGN_BUMP = 10;
        static final int SIGN_BELL = 11;
        static final int SIGN_WAY = 12;
        static final int SIGN_YES = 13;

        // A blank stands behind each word; the constants are the words' places in this row.
        static final String WORDS =
            "if do not bump bell way yes count mode set drop right left back face keep go add zero wipe ";
        static final int IF = 0;
        static final int DO = 1;
        static final int NOT = 2;
        static final int BUMP = 3;
        static final int BELL = 4;
        static final int WAY = 5;
        static final int YES = 6;
        static final int COUNT = 7;
        static final int MODE = 8;
        static final int SET = 9;
        static final int DROP = 10;
        static final int RIGHT = 11;
        static final int LEFT = 12;
        static final int BACK = 13;
        static final int FACE = 14;
        static final int KEEP = 15;
        static final int GO = 16;
        static final int ADD = 17;
        static final int ZERO = 18;
        static final int WIPE = 19;

        int lines;
        final int[] acts = new int[MOST_LINES * MOST_ACTS];
        final int[] actsEnd = new int[MOST_LINES];
        // Signs that a line asks for, and those of them that must hold; the others mustn't.
        private final int[] asked = new int[MOST_LINES];
        private final int[] wanted = new int[MOST_LINES];
        private final int[] leastCount = new int[MOST_LINES];
        private final int[] countBelow = new int[MOST_LINES];

        static int actOf(int word, int number) {
            return word << 4 | number;
        }

        void openLine() {
            if (lines >= MOST_LINES) {
                return;
            }
            asked[lines] = 0;
            wanted[lines] = 0;
            leastCount[lines] = 0;
            countBelow[lines] = MOST_COUNT + 1;
            actsEnd[lines] = lines * MOST_ACTS;
            lines++;
        }

        void addSign(int sign, boolean not) {
            int line = lines - 1;
            if (line < 0) {
                return;
            }
            asked[line] |= 1 << sign;
            if (!not) {
                wanted[line] |= 1 << sign;
            }
        }

        void addCount(int number, boolean not) {
            int line = lines - 1;
            if (line < 0) {
                return;
            }
            if (not && number < countBelow[line]) {
                countBelow[line] = number;
            }
            if (!not && number > leastCount[line]) {
                leastCount[line] = number;
            }
        }

        void addAct(int act) {
            int line = lines - 1;
            if (line < 0 || actsEnd[line] >= lines * MOST_ACTS) {
                return;
            }
            acts[actsEnd[line]] = act;
            actsEnd[line]++;
        }

        int lineFor(int signs, int counter) {
            for (int i = 0; i < lines; i++) {
                if (((signs ^ wanted[i]) & asked[i]) == 0 && counter >= leastCount[i] && counter < countBelow[i]) {
                    return i;
                }
            }
            return NONE;
        }

        boolean usesYes(int yes) {
            int sign = 1 << (SIGN_YES + yes);
            boolean tested = false;
            boolean given = false;
            for (int line = 0; line < lines; line++) {
                tested |= (asked[line] & sign) != 0;
                for (int i = line * MOST_ACTS; i < actsEnd[line]; i++) {
                    given |= acts[i] == actOf(SET, yes);
                }
            }
            return tested && given;
        }
    }

    /** Reads rules from a text. */
    private static final class RulesReader {
        private static final int MOST_TESTS = 12;

        private final Text text;
        private final int[] testsTold = new int[MOST_TESTS];
        private int tests;
        // A text is read into a draft, so that a faulty one leaves the rules as they are.
        private Rules draft = new Rules();

        RulesReader(Text source) {
            text = source;
        }

        /** The rules that were read, for old ones that will be written over. */
        Rules exchange(Rules old) {
            Rules read = draft;
            draft = old;
            return read;
        }

        boolean read(int n) {
            draft.lines = 0;
            text.open(n, Rules.WORDS);
            for (int i = 0; i <= Rules.MOST_LINES && text.fault == 0 && text.kind != Text.END; i++) {
                readLine();
            }
            return text.fault == 0;
        }

        private void readLine() {
            boolean tested = text.word == Rules.IF;
            if (!tested && text.word != Rules.DO) {
                text.refuse(1, text.place);
                return;
            }
            if (draft.lines >= Rules.MOST_LINES) {
                text.refuse(2, text.place);
                return;
            }
            draft.openLine();
            tests = 0;
            if (tested) {
                text.advance();
                readTests();
            }
            if (text.fault == 0) {
                text.advance();
                readActs();
            }
            if (text.fault == 0) {
                text.advance();
            }
        }

        /** Ends on the word do. */
        private void readTests() {
            for (int i = 0; i <= MOST_TESTS && text.fault == 0; i++) {
                if (i > 0 && text.word == Rules.DO) {
                    return;
                }
                readTest();
            }
        }

        private void readTest() {
            boolean not = text.word == Rules.NOT;
            if (!not && !isTest(text.word)) {
                text.refuse(1, text.place);
                return;
            }
            if (tests >= MOST_TESTS) {
                text.refuse(2, text.place);
                return;
            }
            if (not) {
                text.advance();
            }
            int word = text.word;
            int place = text.place;
            if (!isTest(word)) {
                text.refuse(1, text.place);
                return;
            }
            int number = readNumberOf(word);
            if (text.fault == 0) {
                takeTest(word, number, not, place);
            }
        }

        private void takeTest(int word, int number, boolean not, int place) {
            int test = word * 128 + number;
            if (isTold(test)) {
                text.refuse(3, place);
                return;
            }
            testsTold[tests] = test;
            tests++;
            if (word == Rules.COUNT) {
                draft.addCount(number, not);
            } else {
                draft.addSign(signOf(word, number), not);
            }
        }

        private boolean isTold(int test) {
            for (int i = 0; i < tests; i++) {
                if (testsTold[i] == test) {
                    return true;
                }
            }
            return false;
        }

        /** Ends on the sign ';'. */
        private void readActs() {
            for (int told = 0; told <= Rules.MOST_ACTS && text.fault == 0; told++) {
                if (told > 0 && text.isSign(';')) {
                    return;
                }
                readAct(told);
            }
        }

        private void readAct(int told) {
            int word = text.word;
            if (!isAct(word)) {
                text.refuse(1, text.place);
                return;
            }
            if (told >= Rules.MOST_ACTS) {
                text.refuse(2, text.place);
                return;
            }
            int number = readNumberOf(word);
            if (text.fault == 0) {
                draft.addAct(Rules.actOf(word, number));
            }
        }

        /** Goes on behind the word, and behind the number that belongs to it; 0 without one. */
        private int readNumberOf(int word) {
            text.advance();
            int most = mostOf(word);
            if (most == NONE) {
                return 0;
            }
            int number = text.value;
            if (text.kind != Text.NUMBER) {
                text.refuse(1, text.place);
            } else if (number > most) {
                text.refuse(2, text.place);
            } else {
                text.advance();
            }
            return number;
        }

        private static int mostOf(int word) {
            switch (word) {
                case Rules.MODE:
                    return Rules.MODES - 1;
                case Rules.COUNT:
                    return Rules.MOST_COUNT;
                case Rules.YES:
                case Rules.SET:
                case Rules.DROP:
                    return Mouse.YESES - 1;
                default:
                    return NONE;
            }
        }

        private static int signOf(int word, int number) {
            switch (word) {
                case Rules.BUMP:
                    return Rules.SIGN_BUMP;
                case Rules.BELL:
                    return Rules.SIGN_BELL;
                case Rules.WAY:
                    return Rules.SIGN_WAY;
                case Rules.YES:
                    return Rules.SIGN_YES + number;
                default:
                    return number;
            }
        }

        private static boolean isTest(int word) {
            return word >= Rules.BUMP && word <= Rules.MODE;
        }

        private static boolean isAct(int word) {
            return word >= Rules.MODE && word <= Rules.WIPE;
        }
    }

    /** The relays and outputs of a net: what each pulls by, operands ahead of what joins them. */
    private static final class Net {
        static final int MOST_RELAYS = 20;
        static final int MOST_KNOTS = 64;
        static final int OUTPUTS = 4;

        // A blank stands behind each word; the constants are the words' places in this row.
        static final String WORDS = "relay go left right keep or and not bump bell one two ";
        static final int RELAY = 0;
        static final int GO = 1;
        static final int LEFT = 2;
        static final int RIGHT = 3;
        static final int KEEP = 4;
        static final int OR = 5;
        static final int AND = 6;
        static final int NOT = 7;
        static final int BUMP = 8;
        static final int BELL = 9;
        static final int ONE = 10;
        static final int TWO = 11;

        // A signal is a bit: the relay's number, then these four.
        static final int SIGNAL_BUMP = MOST_RELAYS;
        static final int SIGNAL_BELL = MOST_RELAYS + 1;
        static final int SIGNAL_ONE = MOST_RELAYS + 2;
        static final int SIGNAL_TWO = MOST_RELAYS + 3;
        // A code below this one takes that signal; these join what was taken, the higher the faster they bind.
        static final int SIGNALS = MOST_RELAYS + 4;
        static final int JOIN_OR = SIGNALS;
        static final int JOIN_AND = SIGNALS + 1;
        static final int JOIN_NOT = SIGNALS + 2;

        int relays;
        int knots;
        int length;
        final int[] codes = new int[MOST_KNOTS];
        // For each relay, then for each output, where its codes begin and end.
        final int[] begins = new int[MOST_RELAYS + OUTPUTS];
        final int[] ends = new int[MOST_RELAYS + OUTPUTS];

        static int placeOfOutput(int word) {
            return MOST_RELAYS + word - GO;
        }

        void clear() {
            relays = 0;
            knots = 0;
            length = 0;
            for (int i = 0; i < begins.length && i < ends.length; i++) {
                begins[i] = 0;
                ends[i] = 0;
            }
        }

        void addCode(int code) {
            if (length < MOST_KNOTS) {
                codes[length] = code;
                length++;
            }
        }

        /** Whether the relay or output at a place holds by these signals: 1 or 0. */
        int valueOf(int place, int signals) {
            if (place < 0 || place >= MOST_RELAYS + OUTPUTS) {
                return 0;
            }
            // The lowest bit is the newest one; 64 knots never leave more than 32 open.
            int open = 0;
            for (int i = begins[place]; i < ends[place]; i++) {
                int code = codes[i];
                if (code < SIGNALS) {
                    open = open << 1 | (signals >>> code & 1);
                } else if (code == JOIN_NOT) {
                    open ^= 1;
                } else {
                    int newest = open & 1;
                    open >>>= 1;
                    open = code == JOIN_OR ? open | newest : open & (newest | ~1);
                }
            }
            return open & 1;
        }

        int relaysBy(int signals) {
            int holding = 0;
            for (int i = 0; i < relays; i++) {
                holding |= valueOf(i, signals) << i;
            }
            return holding;
        }

        /** The outputs that are on, as bits by their words. */
        int outputsBy(int signals) {
            int outputs = 0;
            for (int word = GO; word <= KEEP; word++) {
                outputs |= valueOf(placeOfOutput(word), signals) << word;
            }
            return outputs;
        }
    }

    /** Reads a net from a text. */
    private static final class NetReader {
        private static final int MOST_BRACKETS = 8;
        private static final int BRACKET = Net.JOIN_NOT + 1;
        private static final int NAMED = Net.JOIN_NOT + 2;

        private final Text text;
        private final int[] names = new int[Net.MOST_RELAYS];
        // For each code that is a name: the name and its place.
        private final int[] askedNames = new int[Net.MOST_KNOTS];
        private final int[] askedPlaces = new int[Net.MOST_KNOTS];
        // What waits for its operand, brackets too.
        private final int[] waiting = new int[Net.MOST_KNOTS + MOST_BRACKETS];
        // A text is read into a draft, so that a faulty one leaves the net as it is.
        private Net draft = new Net();
        private int outputsTold;
        private int brackets;
        private int open;
        private int waits;

        NetReader(Text source) {
            text = source;
        }

        /** The net that was read, for an old one that will be written over. */
        Net exchange(Net old) {
            Net read = draft;
            draft = old;
            return read;
        }

        boolean read(int n) {
            draft.clear();
            outputsTold = 0;
            brackets = 0;
            text.open(n, Net.WORDS);
            for (int i = 0; i <= Text.ROOM && text.fault == 0 && text.kind != Text.END; i++) {
                readLine();
            }
            if (text.fault == 0) {
                findNames();
            }
            return text.fault == 0;
        }

        private void readLine() {
            int place = readTarget();
            if (text.fault != 0 || place < 0 || place >= draft.begins.length) {
                return;
            }
            text.advance();
            if (!text.isSign('=')) {
                text.refuse(1, text.place);
                return;
            }
            text.advance();
            draft.begins[place] = draft.length;
            readExpression();
            draft.ends[place] = draft.length;
            if (text.fault == 0) {
                text.advance();
            }
        }

        /** The place in the net of what the line tells of. */
        private int readTarget() {
            int word = text.word;
            if (word == Net.RELAY) {
                return readRelay();
            }
            if (word < Net.GO || word > Net.KEEP) {
                text.refuse(1, text.place);
                return NONE;
            }
            if ((outputsTold >> word & 1) != 0) {
                text.refuse(3, text.place);
                return NONE;
            }
            outputsTold |= 1 << word;
            return Net.placeOfOutput(word);
        }

        private int readRelay() {
            if (draft.relays >= Net.MOST_RELAYS) {
                text.refuse(2, text.place);
                return NONE;
            }
            text.advance();
            if (!isName()) {
                text.refuse(1, text.place);
                return NONE;
            }
            if (relayOf(text.value) != NONE) {
                text.refuse(3, text.place);
                return NONE;
            }
            names[draft.relays] = text.value;
            draft.relays++;
            return draft.relays - 1;
        }

        /** Ends on the sign ';'. */
        private void readExpression() {
            open = 0;
            waits = 0;
            boolean operandDue = true;
            for (int i = 0; i <= Text.ROOM && text.fault == 0; i++) {
                if (operandDue) {
                    operandDue = readOperand();
                } else if (open == 0 && text.isSign(';')) {
                    joinDownTo(Net.JOIN_OR);
                    return;
                } else if (open > 0 && text.isSign(')')) {
                    closeBracket();
                } else {
                    readJoint();
                    operandDue = true;
                }
                if (text.fault == 0) {
                    text.advance();
                }
            }
        }

        /** Whether an operand is still due behind the token. */
        private boolean readOperand() {
            int word = text.word;
            if (text.isSign('(')) {
                openBracket();
                return true;
            }
            if (word == Net.NOT) {
                if (countKnot()) {
                    await(Net.JOIN_NOT);
                }
                return true;
            }
            boolean input = word >= Net.BUMP && word <= Net.TWO;
            if (!input && !isName()) {
                text.refuse(1, text.place);
            } else if (countKnot()) {
                takeOperand(input ? Net.SIGNAL_BUMP + word - Net.BUMP : NAMED);
            }
            return false;
        }

        private void takeOperand(int code) {
            if (draft.length < Net.MOST_KNOTS) {
                askedNames[draft.length] = text.value;
                askedPlaces[draft.length] = text.place;
            }
            draft.addCode(code);
        }

        private void openBracket() {
            if (brackets >= MOST_BRACKETS) {
                text.refuse(2, text.place);
                return;
            }
            brackets++;
            open++;
            await(BRACKET);
        }

        private void closeBracket() {
            joinDownTo(Net.JOIN_OR);
            open--;
            if (waits > 0) {
                waits--;
            }
        }

        private void readJoint() {
            int word = text.word;
            if (word != Net.OR && word != Net.AND) {
                text.refuse(1, text.place);
            } else if (countKnot()) {
                int code = word == Net.OR ? Net.JOIN_OR : Net.JOIN_AND;
                joinDownTo(code);
                await(code);
            }
        }

        private boolean countKnot() {
            if (draft.knots >= Net.MOST_KNOTS) {
                text.refuse(2, text.place);
                return false;
            }
            draft.knots++;
            return true;
        }

        private void await(int code) {
            if (waits < waiting.length) {
                waiting[waits] = code;
                waits++;
            }
        }

        /** What waits behind the latest bracket and binds as fast as this code, or faster, has its operands now. */
        private void joinDownTo(int code) {
            while (waits > 0 && waiting[waits - 1] >= code && waiting[waits - 1] != BRACKET) {
                waits--;
                draft.addCode(waiting[waits]);
            }
        }

        private void findNames() {
            for (int i = 0; i < draft.length && text.fault == 0; i++) {
                if (draft.codes[i] == NAMED) {
                    int relay = relayOf(askedNames[i]);
                    if (relay == NONE) {
                        text.refuse(4, askedPlaces[i]);
                    } else {
                        draft.codes[i] = relay;
                    }
                }
            }
        }

        private boolean isName() {
            return text.kind == Text.WORD && text.word == NONE && text.value != 0;
        }

        private int relayOf(int name) {
            for (int i = 0; i < draft.relays; i++) {
                if (names[i] == name) {
                    return i;
                }
            }
            return NONE;
        }
    }

    /** The squares, their walls and the bell; sets of squares are bits of a long. */
    private static final class Floor {
        static final int LEAST = 2;
        static final int MOST = 6;
        static final int SIDES = 4;
        static final int UP = 0;
        static final int RIGHT = 1;
        static final int DOWN = 2;
        static final int LEFT = 3;
        private static final int FIRST_SIZE = 5;

        int width;
        int height;
        int squares;
        int bellSquare;
        // For each side: the squares with a wall there, how much the square ahead is
        // numbered higher, and the squares at the floor's rim.
        final long[] walls = new long[SIDES];
        final int[] strides = new int[SIDES];
        private final long[] rims = new long[SIDES];

        Floor() {
            lay(FIRST_SIZE, FIRST_SIZE);
        }

        void lay(int w, int h) {
            width = w;
            height = h;
            squares = w * h;
            bellSquare = squares - 1;
            long firstColumn = 0L;
            for (int row = 0; row < h; row++) {
                firstColumn |= 1L << (row * w);
            }
            rims[UP] = (1L << w) - 1L;
            rims[RIGHT] = firstColumn << (w - 1);
            rims[DOWN] = rims[UP] << (squares - w);
            rims[LEFT] = firstColumn;
            strides[UP] = -w;
            strides[RIGHT] = 1;
            strides[DOWN] = w;
            strides[LEFT] = -1;
            clearWalls();
        }

        private void clearWalls() {
            for (int side = 0; side < SIDES; side++) {
                walls[side] = rims[side];
            }
        }

        void copyFrom(Floor other) {
            width = other.width;
            height = other.height;
            squares = other.squares;
            bellSquare = other.bellSquare;
            for (int side = 0; side < SIDES; side++) {
                walls[side] = other.walls[side];
                rims[side] = other.rims[side];
                strides[side] = other.strides[side];
            }
        }

        boolean has(int square) {
            return square >= 0 && square < squares;
        }

        boolean isRim(int square, int side) {
            return (rims[side & 3] >>> square & 1L) != 0L;
        }

        boolean isWalled(int square, int side) {
            return (walls[side & 3] >>> square & 1L) != 0L;
        }

        int wallsOf(int square) {
            int bits = 0;
            for (int side = 0; side < SIDES; side++) {
                if (isWalled(square, side)) {
                    bits |= 1 << side;
                }
            }
            return bits;
        }

        int ahead(int square, int side) {
            return square + strides[side & 3];
        }

        void putWall(int square, int side, boolean on) {
            markWall(square, side, on);
            markWall(ahead(square, side), side + 2, on);
        }

        private void markWall(int square, int side, boolean on) {
            if (on) {
                walls[side & 3] |= 1L << square;
            } else {
                walls[side & 3] &= ~(1L << square);
            }
        }

        int standingWalls() {
            return Long.bitCount(walls[RIGHT] & ~rims[RIGHT]) + Long.bitCount(walls[DOWN] & ~rims[DOWN]);
        }

        /** How many walls could stand between squares: their numbers are below this. */
        int wallNumbers() {
            return height * (width - 1) + (height - 1) * width;
        }

        private int squareOfWall(int number) {
            int inRow = width - 1;
            int across = height * inRow;
            if (number >= across || inRow < 1) {
                return number - across;
            }
            return number / inRow * width + number % inRow;
        }

        private int sideOfWall(int number) {
            return number < height * (width - 1) ? RIGHT : DOWN;
        }

        void moveWall(int number) {
            int square = squareOfWall(number);
            int side = sideOfWall(number);
            putWall(square, side, !isWalled(square, side));
        }

        /** Just the walls whose numbers are bits of the set stand. */
        void raiseWalls(int set) {
            clearWalls();
            for (int number = 0; number < wallNumbers(); number++) {
                if ((set >> number & 1) != 0) {
                    putWall(squareOfWall(number), sideOfWall(number), true);
                }
            }
        }

        /** The squares and all that one step from them comes to. */
        private long spread(long from) {
            return from
                | (from & ~walls[UP]) >>> width
                | (from & ~walls[RIGHT]) << 1
                | (from & ~walls[DOWN]) << width
                | (from & ~walls[LEFT]) >>> 1;
        }

        /** All squares from which one can come to the bell. */
        long reach() {
            long reached = 1L << bellSquare;
            for (int steps = 1; steps < squares; steps++) {
                reached = spread(reached);
            }
            return reached;
        }

        int far(int square) {
            long reached = 1L << square;
            for (int steps = 0; steps < squares; steps++) {
                if ((reached >>> bellSquare & 1L) != 0L) {
                    return steps;
                }
                reached = spread(reached);
            }
            return NONE;
        }
    }

    /** A mouse, with the ways and yeses of the squares that it walks on. */
    private static final class Mouse {
        static final int YESES = 3;

        int square;
        int heading;
        int mode;
        int counter;
        // Squares whose way is 1 or 3, and 2 or 3.
        private long one;
        private long two;
        // The line done by the latest tick by rules.
        int line = NONE;
        // How often it went to another square; who asks sets it to 0 ahead.
        int went;
        // Yeses that are never held for this mouse (bits).
        int barred;
        private final long[] yeses = new long[YESES];

        void setDown(int where) {
            square = where;
            heading = 0;
            mode = 0;
            counter = 0;
        }

        void setDownWiped(int where) {
            setDown(where);
            clearSquares();
        }

        void clearSquares() {
            one = 0L;
            two = 0L;
            for (int i = 0; i < YESES; i++) {
                yeses[i] = 0L;
            }
        }

        /** All but the latest line, what it went, and what is barred. */
        void copyFrom(Mouse other) {
            square = other.square;
            heading = other.heading;
            mode = other.mode;
            counter = other.counter;
            one = other.one;
            two = other.two;
            for (int i = 0; i < YESES; i++) {
                yeses[i] = other.yeses[i];
            }
        }

        int markedSquares() {
            long marked = one | two;
            for (int i = 0; i < YESES; i++) {
                marked |= yeses[i];
            }
            return Long.bitCount(marked);
        }

        int wayOf(int where) {
            return (int) (one >>> where & 1L) + 2 * (int) (two >>> where & 1L);
        }

        int yesesOf(int where) {
            int bits = 0;
            for (int i = 0; i < YESES; i++) {
                bits |= (int) (yeses[i] >>> where & 1L) << i;
            }
            return bits;
        }

        boolean standsAs(Mouse other) {
            return square == other.square && heading == other.heading;
        }

        boolean hasWaysOf(Mouse other) {
            return one == other.one && two == other.two;
        }

        private void turn(int sides) {
            heading = (heading + sides) & 3;
        }

        private void markWay() {
            long here = 1L << square;
            one = (heading & 1) != 0 ? one | here : one & ~here;
            two = (heading & 2) != 0 ? two | here : two & ~here;
        }

        private void advance(Floor floor) {
            int side = heading & 3;
            if ((floor.walls[side] >>> square & 1L) == 0L) {
                square += floor.strides[side];
                went++;
            }
        }

        private void markYes(int yes, boolean on) {
            if (yes < 0 || yes >= YESES) {
                return;
            }
            if (!on) {
                yeses[yes] &= ~(1L << square);
            } else if ((barred >> yes & 1) == 0) {
                yeses[yes] |= 1L << square;
            }
        }

        /** What the tests of rules ask for, but for the count. */
        private int signs(Floor floor) {
            int signs = (1 << mode) | (yesesOf(square) << Rules.SIGN_YES);
            if (floor.isWalled(square, heading)) {
                signs |= 1 << Rules.SIGN_BUMP;
            }
            if (square == floor.bellSquare) {
                signs |= 1 << Rules.SIGN_BELL;
            }
            if (heading == wayOf(square)) {
                signs |= 1 << Rules.SIGN_WAY;
            }
            return signs;
        }

        /** A tick by rules. */
        void obey(Rules rules, Floor floor) {
            line = rules.lineFor(signs(floor), counter);
            if (line < 0) {
                return;
            }
            int end = rules.actsEnd[line];
            for (int i = line * Rules.MOST_ACTS; i < end; i++) {
                perform(rules.acts[i], floor);
            }
        }

        private void perform(int act, Floor floor) {
            int number = act & 15;
            switch (act >> 4) {
                case Rules.RIGHT:
                    turn(1);
                    break;
                case Rules.LEFT:
                    turn(3);
                    break;
                case Rules.BACK:
                    turn(2);
                    break;
                case Rules.FACE:
                    heading = wayOf(square);
                    break;
                case Rules.KEEP:
                    markWay();
                    break;
                case Rules.GO:
                    advance(floor);
                    break;
                case Rules.SET:
                    markYes(number, true);
                    break;
                case Rules.DROP:
                    markYes(number, false);
                    break;
                case Rules.MODE:
                    mode = number;
                    break;
                case Rules.ADD:
                    counter = Math.min(Rules.MOST_COUNT, counter + 1);
                    break;
                case Rules.ZERO:
                    counter = 0;
                    break;
                default:
                    clearSquares();
                    break;
            }
        }

        /** A run by rules. */
        int arrive(Rules rules, Floor floor, int most) {
            for (int ticks = 0; ticks < most; ticks++) {
                if (square == floor.bellSquare) {
                    return ticks;
                }
                obey(rules, floor);
                if (line == NONE) {
                    // Nothing was done, so nothing will be by the ticks that are left.
                    return NEVER;
                }
            }
            return square == floor.bellSquare ? most : NEVER;
        }

        /** What a net is told of the mouse, as signals. */
        int inputs(Floor floor) {
            int inputs = wayOf(square) << Net.SIGNAL_ONE;
            if (floor.isWalled(square, heading)) {
                inputs |= 1 << Net.SIGNAL_BUMP;
            }
            if (square == floor.bellSquare) {
                inputs |= 1 << Net.SIGNAL_BELL;
            }
            return inputs;
        }

        void doOutputs(int outputs, Floor floor) {
            if ((outputs >> Net.KEEP & 1) != 0) {
                markWay();
            }
            if ((outputs >> Net.LEFT & 1) != 0) {
                turn(3);
            }
            if ((outputs >> Net.RIGHT & 1) != 0) {
                turn(1);
            }
            if ((outputs >> Net.GO & 1) != 0) {
                advance(floor);
            }
        }
    }

    /** Which relays of a net hold and which are stuck, and what the latest tick found. */
    private static final class Coils {
        int holding;
        int jammed;
        private int jammedOn;
        private boolean ticked;
        private int before;
        private int after;
        private int inputs;

        /** As behind a new net. */
        void renew() {
            jammed = 0;
            jammedOn = 0;
            holding = 0;
            ticked = false;
        }

        void release() {
            settle(0);
        }

        /** These would hold; those that are stuck are as they are stuck. */
        void settle(int wouldHold) {
            holding = (wouldHold & ~jammed) | jammedOn;
        }

        /** Just these are stuck, and no other relay holds. */
        void jamAll(int which, int on) {
            jammed = which;
            jammedOn = on & which;
            holding = jammedOn;
        }

        void jamLike(Coils other) {
            jamAll(other.jammed, other.jammedOn);
        }

        void jam(int relay, boolean on) {
            int bit = 1 << relay;
            jammed |= bit;
            jammedOn = on ? jammedOn | bit : jammedOn & ~bit;
            settle(holding);
        }

        void free(int relay) {
            int others = ~(1 << relay);
            jammed &= others;
            jammedOn &= others;
        }

        /** A tick by the net. */
        void step(Net net, Mouse mouse, Floor floor) {
            inputs = mouse.inputs(floor);
            before = holding;
            settle(net.relaysBy(before | inputs));
            after = holding;
            ticked = true;
            mouse.doOutputs(net.outputsBy(after | inputs), floor);
        }

        int firstRace(Net net) {
            if (!ticked) {
                return NONE;
            }
            int changed = before ^ after;
            for (int lesser = 0; lesser < net.relays; lesser++) {
                for (int other = lesser + 1; other < net.relays; other++) {
                    int pair = (1 << lesser) | (1 << other);
                    if ((changed & pair) == pair) {
                        int found = raceOf(net, lesser, other);
                        if (found != NONE) {
                            return found;
                        }
                    }
                }
            }
            return NONE;
        }

        private int raceOf(Net net, int lesser, int other) {
            if (wouldStay(net, lesser, other)) {
                return 32 * lesser + other;
            }
            return wouldStay(net, other, lesser) ? 32 * other + lesser : NONE;
        }

        private boolean wouldStay(Net net, int relay, int changedAhead) {
            int signals = (before ^ 1 << changedAhead) | inputs;
            return net.valueOf(relay, signals) == (before >> relay & 1);
        }
    }

    /** What rules do on all small floors. */
    private static final class SmallFloors {
        private static final int LEAST = 2;
        private static final int MOST = 3;
        private static final int SIZES = 4;
        private static final int SHORT_RUN = 100;
        // Twelve walls can stand or not between nine squares.
        private static final int MOST_STARTS = 4096 * 9;

        private final Floor floor = new Floor();
        private final Mouse mouse = new Mouse();
        private final Mouse other = new Mouse();
        // Where a run starts: the set of walls, the square, and all squares from which one can come then.
        private int set;
        private int square;
        private long able;
        // What was found by the rules told now, a place for each size: one asks for its parts call by call.
        private int heldKnown;
        private int longestKnown;
        private final int[] heldWalls = new int[SIZES];
        private final int[] heldSquares = new int[SIZES];
        private final int[] longestTicks = new int[SIZES];
        private final int[] longestWalls = new int[SIZES];
        private final int[] longestSquares = new int[SIZES];

        static boolean isSmall(int w, int h) {
            return w >= LEAST && w <= MOST && h >= LEAST && h <= MOST;
        }

        private static int sizeOf(int w, int h) {
            return isSmall(w, h) ? (w - LEAST) * 2 + h - LEAST : 0;
        }

        /** Other rules are told. */
        void forget() {
            heldKnown = 0;
            longestKnown = 0;
        }

        private void layFirst(int w, int h) {
            floor.lay(w, h);
            set = 0;
            square = NONE;
            able = floor.reach();
        }

        /** Goes on to the next square from which one can come, if need be on the next floor; false: there is none. */
        private boolean nextStart() {
            int sets = 1 << floor.wallNumbers();
            for (int i = 0; i < MOST_STARTS; i++) {
                square++;
                if (square >= floor.squares) {
                    square = 0;
                    set++;
                    floor.raiseWalls(set);
                    able = floor.reach();
                }
                if (set >= sets) {
                    return false;
                }
                if ((able >>> square & 1L) != 0L) {
                    return true;
                }
            }
            return false;
        }

        int heldBy(Rules rules, int w, int h, int what) {
            int size = sizeOf(w, h);
            if ((heldKnown >> size & 1) == 0) {
                layFirst(w, h);
                findHeld(rules, size);
                heldKnown |= 1 << size;
            }
            return what == 0 ? heldWalls[size] : heldSquares[size];
        }

        private void findHeld(Rules rules, int size) {
            heldWalls[size] = NEVER;
            heldSquares[size] = NEVER;
            for (int i = 0; i < MOST_STARTS && nextStart(); i++) {
                mouse.setDownWiped(square);
                if (mouse.arrive(rules, floor, SHORT_RUN) == NEVER) {
                    heldWalls[size] = set;
                    heldSquares[size] = square;
                    return;
                }
            }
        }

        int longestBy(Rules rules, int w, int h, int what) {
            int size = sizeOf(w, h);
            if ((longestKnown >> size & 1) == 0) {
                layFirst(w, h);
                findLongest(rules, size);
                longestKnown |= 1 << size;
            }
            if (what == 0) {
                return longestTicks[size];
            }
            return what == 1 ? longestWalls[size] : longestSquares[size];
        }

        private void findLongest(Rules rules, int size) {
            longestTicks[size] = NONE;
            for (int i = 0; i < MOST_STARTS && nextStart(); i++) {
                mouse.setDownWiped(square);
                int ticks = mouse.arrive(rules, floor, SHORT_RUN);
                if (ticks > longestTicks[size]) {
                    longestTicks[size] = ticks;
                    longestWalls[size] = set;
                    longestSquares[size] = square;
                }
            }
        }

        boolean isNeeded(Rules rules, int yes, int w, int h) {
            // A yes that is never set, or never asked for, makes no difference anywhere.
            if (!rules.usesYes(yes)) {
                return false;
            }
            layFirst(w, h);
            other.barred = 1 << yes;
            for (int i = 0; i < MOST_STARTS && nextStart(); i++) {
                if (partWays(rules)) {
                    return true;
                }
            }
            return false;
        }

        /** Whether the two mice, one of them barred from a yes, don't run alike; alike they end alike. */
        private boolean partWays(Rules rules) {
            mouse.setDownWiped(square);
            other.setDownWiped(square);
            for (int ticks = 0; ticks < SHORT_RUN && mouse.square != floor.bellSquare; ticks++) {
                mouse.obey(rules, floor);
                other.obey(rules, floor);
                if (!mouse.standsAs(other)) {
                    return true;
                }
            }
            return false;
        }
    }

    /** What the net would do from here, beside the rules or with other relays stuck. */
    private static final class Inquest {
        private static final int MOST_TICKS = 500;

        int suspectsOff;
        int suspectsOn;
        int bestWall = NONE;
        int fewestLeft;
        private Net net = new Net();
        private final Mouse start = new Mouse();
        private final Coils now = new Coils();
        private final Floor floor = new Floor();
        private final Mouse mouse = new Mouse();
        private final Mouse ruled = new Mouse();
        private final Coils trialCoils = new Coils();
        // Where the mouse stood behind each tick with the relays that are stuck now.
        private final int[] track = new int[MOST_TICKS];

        static boolean isLength(int t) {
            return t >= 1 && t <= MOST_TICKS;
        }

        void begin(Net wiring, Mouse walker, Floor ground, Coils coils) {
            net = wiring;
            start.copyFrom(walker);
            floor.copyFrom(ground);
            now.jamLike(coils);
        }

        /** The first tick behind which rules and net differ, 0 without one. */
        int firstDifference(Rules rules, int t) {
            ruled.copyFrom(start);
            mouse.copyFrom(start);
            trialCoils.jamLike(now);
            for (int tick = 1; tick <= t; tick++) {
                ruled.obey(rules, floor);
                trialCoils.step(net, mouse, floor);
                if (!mouse.standsAs(ruled) || !mouse.hasWaysOf(ruled)) {
                    return tick;
                }
            }
            return 0;
        }

        void findSuspects(int t) {
            suspectsOff = 0;
            suspectsOn = 0;
            recordTrack(t);
            if (keepsTrack(0, 0, t)) {
                return;
            }
            for (int relay = 0; relay < net.relays; relay++) {
                int bit = 1 << relay;
                if (keepsTrack(bit, 0, t)) {
                    suspectsOff |= bit;
                }
                if (keepsTrack(bit, bit, t)) {
                    suspectsOn |= bit;
                }
            }
        }

        int suspectCount() {
            return Integer.bitCount(suspectsOff) + Integer.bitCount(suspectsOn);
        }

        void findBestWall(int t) {
            bestWall = NONE;
            fewestLeft = suspectCount() + 1;
            for (int number = 0; number < floor.wallNumbers(); number++) {
                floor.moveWall(number);
                int left = suspectsLeft(t);
                floor.moveWall(number);
                if (left < fewestLeft) {
                    fewestLeft = left;
                    bestWall = number;
                }
            }
        }

        /** How many suspects still do as the net; they are counted no further than to the fewest so far. */
        private int suspectsLeft(int t) {
            recordTrack(t);
            int left = 0;
            for (int relay = 0; relay < net.relays && left < fewestLeft; relay++) {
                int bit = 1 << relay;
                if ((suspectsOff & bit) != 0 && keepsTrack(bit, 0, t)) {
                    left++;
                }
                if ((suspectsOn & bit) != 0 && keepsTrack(bit, bit, t)) {
                    left++;
                }
            }
            return left;
        }

        private void recordTrack(int t) {
            mouse.copyFrom(start);
            trialCoils.jamLike(now);
            for (int tick = 0; tick < t && tick < MOST_TICKS; tick++) {
                trialCoils.step(net, mouse, floor);
                track[tick] = stand();
            }
        }

        private boolean keepsTrack(int jammed, int on, int t) {
            mouse.copyFrom(start);
            trialCoils.jamAll(jammed, on);
            for (int tick = 0; tick < t && tick < MOST_TICKS; tick++) {
                trialCoils.step(net, mouse, floor);
                if (track[tick] != stand()) {
                    return false;
                }
            }
            return true;
        }

        private int stand() {
            return mouse.square * Floor.SIDES + mouse.heading;
        }
    }
}
