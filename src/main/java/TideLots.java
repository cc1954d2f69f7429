/** Fishers who share tides by lots. */
public final class TideLots {
    private static final int MOST_BYTES = 2000;
    private static final int MOST_TOKENS = 400;
    private static final int MOST_DEPTH = 8;
    private static final int MOST_LETTERS = 10;
    private static final int MOST_DIGITS = 6;
    private static final int MOST_NUMBER = 999999;

    private static final int MOST_GROUNDS = 8;
    private static final int MOST_FISHERS = 8;
    private static final int MOST_PACTS = 6;
    private static final int MOST_GOES = 24;
    private static final int SIZES = 5;
    private static final int MOST_MESH = 6;
    private static final int MOST_OF_A_SIZE = 99;

    private static final int BROKEN_TEXT = 1;
    private static final int TOLD_TWICE = 2;
    private static final int NOT_TOLD = 3;
    private static final int TOO_MANY = 4;
    private static final int OUT_OF_RANGE = 5;
    private static final int TWICE_IN_PACT = 6;

    private static final int MOST_TIDES = 60;
    private static final int MOST_ADVISED_TIDES = 40;
    private static final int MOST_AWAITED_TIDES = 100;
    private static final int MEND_COST = 3;

    private static final Sign[] SIGNS = Sign.values();

    private final Tape tape = new Tape();
    private Shore shore = new Shore();
    /** Never seen from outside: teach() builds in it, and looks ahead are taken in it. */
    private Shore other = new Shore();
    private int errorAt = -1;

    public TideLots() {
    }

    // ---- the language

    public int feed(int a, int b, int c, int d, int e) throws IllegalStateException {
        if (tape.length + 20 > MOST_BYTES) {
            throw new IllegalStateException("the tape is full");
        }
        tape.append(a);
        tape.append(b);
        tape.append(c);
        tape.append(d);
        tape.append(e);
        return tape.length;
    }

    public int trim(int n) throws IllegalArgumentException {
        if (n < 0 || n > tape.length) {
            throw new IllegalArgumentException("the tape is not as long");
        }
        tape.length = n;
        return n;
    }

    public int teach() {
        tape.scan();
        Reader reader = new Reader(tape, other);
        int error = reader.read();
        errorAt = reader.errorAt;
        tape.length = 0;
        if (error == 0) {
            other.tide = shore.tide;
            other.luck = shore.luck;
            Shore former = shore;
            shore = other;
            other = former;
        }
        return error;
    }

    public int errorAt() {
        return errorAt;
    }

    public int count(int what) throws IndexOutOfBoundsException {
        switch (what) {
            case 0: return shore.tide;
            case 1: return shore.groundCount;
            case 2: return shore.fisherCount;
            case 3: return shore.goCount;
            case 4: return shore.pactCount;
            case 5: return shore.allFish();
            case 6: return shore.allStores();
            case 7: return shore.widenedNets();
            case 8: return shore.allCheats();
            case 9: return tape.length;
            default: throw new IndexOutOfBoundsException("nothing of this number is counted");
        }
    }

    // ---- grounds, fishers, pacts

    public int ground(int ground, int what) throws IndexOutOfBoundsException {
        checkGround(ground);
        Ground it = shore.grounds[ground];
        switch (what) {
            case 0: return it.allFish();
            case 1: case 2: case 3: case 4: case 5: return it.fish[what];
            case 6: return it.room;
            case 7: return it.boats;
            case 8: return it.caught;
            default: throw new IndexOutOfBoundsException("nothing of this number is told of a ground");
        }
    }

    public int fisher(int fisher, int what) throws IndexOutOfBoundsException {
        checkFisher(fisher);
        Fisher it = shore.fishers[fisher];
        switch (what) {
            case 0: return it.mesh;
            case 1: return it.toldMesh;
            case 2: return it.net;
            case 3: return it.hold;
            case 4: return it.store;
            case 5: return it.latest;
            case 6: return it.place;
            case 7: return it.tears;
            case 8: return it.isCheat ? 1 : 0;
            case 9: return it.caught;
            default: throw new IndexOutOfBoundsException("nothing of this number is told of a fisher");
        }
    }

    public int pact(int pact, int what) throws IndexOutOfBoundsException {
        if (pact < 0 || pact >= shore.pactCount) {
            throw new IndexOutOfBoundsException("no such pact");
        }
        Pact it = shore.pacts[pact];
        switch (what) {
            case 0: return it.splits() ? 0 : 1;
            case 1: return it.ground;
            case 2: return it.size;
            case 3: return it.fishers[0];
            case 4: return it.shown;
            case 5: return it.hidden;
            case 6: return it.hidingTides;
            default: throw new IndexOutOfBoundsException("nothing of this number is told of a pact");
        }
    }

    public int cheat(int fisher, boolean isCheat) throws IndexOutOfBoundsException {
        checkFisher(fisher);
        shore.fishers[fisher].isCheat = isCheat;
        return shore.allCheats();
    }

    public int mend(int fisher) throws IndexOutOfBoundsException, IllegalStateException {
        checkFisher(fisher);
        Fisher it = shore.fishers[fisher];
        if (it.mesh == it.toldMesh || it.store < MEND_COST) {
            throw new IllegalStateException("the net is whole, or the store too small");
        }
        it.mesh = it.toldMesh;
        it.store -= MEND_COST;
        return it.store;
    }

    public int lot(int lot) throws IndexOutOfBoundsException {
        if (lot < 0 || lot >= shore.fisherCount) {
            throw new IndexOutOfBoundsException("no such lot");
        }
        shore.drawLots();
        return shore.lots[lot];
    }

    public int took(int ground, int fisher) throws IndexOutOfBoundsException {
        checkGround(ground);
        checkFisher(fisher);
        return shore.fishers[fisher].took[ground];
    }

    public int blame(int ground) throws IndexOutOfBoundsException {
        checkGround(ground);
        int blamed = -1;
        int most = 0;
        for (int i = 0; i < shore.fisherCount; i++) {
            int took = shore.fishers[i].took[ground];
            if (took > most) {
                most = took;
                blamed = i;
            }
        }
        return blamed;
    }

    public int gap() {
        return shore.storeGap();
    }

    // ---- tides

    public int pass(int tides) throws IllegalArgumentException {
        checkTides(tides, MOST_TIDES);
        return shore.passTides(tides);
    }

    // ---- looking ahead

    public int foresee(int tides, int what) throws IllegalArgumentException, IndexOutOfBoundsException {
        checkTides(tides, MOST_TIDES);
        if (what < 0 || what > 2) {
            throw new IndexOutOfBoundsException("nothing of this number is foreseen");
        }
        Shore ahead = lookAhead();
        ahead.passTides(tides);
        switch (what) {
            case 0: return ahead.allStores();
            case 1: return ahead.allFish();
            default: return ahead.storeGap();
        }
    }

    public int pays(int fisher, int tides) throws IndexOutOfBoundsException, IllegalArgumentException {
        checkFisher(fisher);
        checkTides(tides, MOST_TIDES);
        Shore ahead = lookAhead();
        ahead.fishers[fisher].isCheat = true;
        ahead.passTides(tides);
        int storeOfCheat = ahead.fishers[fisher].store;
        ahead = lookAhead();
        ahead.fishers[fisher].isCheat = false;
        ahead.passTides(tides);
        return storeOfCheat - ahead.fishers[fisher].store;
    }

    public int empty(int ground) throws IndexOutOfBoundsException {
        checkGround(ground);
        Shore ahead = lookAhead();
        for (int tides = 0; tides <= MOST_AWAITED_TIDES; tides++) {
            if (tides > 0) {
                ahead.passTides(1);
            }
            if (ahead.grounds[ground].allFish() == 0) {
                return tides;
            }
        }
        return -1;
    }

    public int advise(int fisher, int tides) throws IndexOutOfBoundsException, IllegalArgumentException {
        checkFisher(fisher);
        checkTides(tides, MOST_ADVISED_TIDES);
        int best = 1;
        int most = -1;
        for (int mesh = 1; mesh <= SIZES; mesh++) {
            Shore ahead = lookAhead();
            ahead.fishers[fisher].mesh = mesh;
            ahead.passTides(tides);
            if (ahead.fishers[fisher].store > most) {
                most = ahead.fishers[fisher].store;
                best = mesh;
            }
        }
        return best;
    }

    public double mean() {
        if (shore.fisherCount == 0) {
            return 0;
        }
        return (double) shore.allStores() / shore.fisherCount;
    }

    public long digest() {
        long d = 739;
        for (int what = 0; what <= 9; what++) {
            d = d * 31 + count(what);
        }
        for (int i = 0; i < shore.groundCount; i++) {
            for (int what = 0; what <= 8; what++) {
                d = d * 31 + ground(i, what);
            }
            for (int fisher = 0; fisher < shore.fisherCount; fisher++) {
                d = d * 31 + took(i, fisher);
            }
        }
        for (int i = 0; i < shore.fisherCount; i++) {
            for (int what = 0; what <= 9; what++) {
                d = d * 31 + fisher(i, what);
            }
        }
        for (int i = 0; i < shore.pactCount; i++) {
            for (int what = 0; what <= 6; what++) {
                d = d * 31 + pact(i, what);
            }
        }
        shore.drawLots();
        for (int i = 0; i < shore.fisherCount; i++) {
            d = d * 31 + shore.lots[i];
        }
        return d;
    }

    /** The shore as it is now, in a copy that may be changed. */
    private Shore lookAhead() {
        other.copyFrom(shore);
        return other;
    }

    private void checkGround(int ground) {
        if (ground < 0 || ground >= shore.groundCount) {
            throw new IndexOutOfBoundsException("no such ground");
        }
    }

    private void checkFisher(int fisher) {
        if (fisher < 0 || fisher >= shore.fisherCount) {
            throw new IndexOutOfBoundsException("no such fisher");
        }
    }

    private static void checkTides(int tides, int most) {
        if (tides < 1 || tides > most) {
            throw new IllegalArgumentException("too few or too many tides");
        }
    }

    /** What a token can be, and what a test or a sum is reckoned by. */
    private enum Sign {
        GROUND("ground"), ROOM("room"), FISH("fish"), FISHER("fisher"), MESH("mesh"), NET("net"), HOLD("hold"),
        GO("go"), TO("to"), WHEN("when"), PACT("pact"), OF("of"), SPLIT("split"), SPARE("spare"), BELOW("below"),
        TIDE("tide"), STORE("store"), CATCH("catch"), BOATS("boats"), CHEATS("cheats"),
        NOT("not"), AND("and"), OR("or"), MIN("min"), MAX("max"),
        OPEN("("), CLOSE(")"), OPEN_TEST("["), CLOSE_TEST("]"), SEMICOLON(";"), COMMA(","),
        PLUS("+"), MINUS("-"), TIMES("*"), OVER("/"),
        LESS("<"), GREATER(">"), EQUAL("="), AT_MOST("<="), AT_LEAST(">="),
        // These have no text of their own; NEGATE is a - in front of a value, and stands in sums only.
        NAME(""), NUMBER(""), END(""), NO_TOKEN(""), NEGATE("");

        final String text;

        Sign(String text) {
            this.text = text;
        }
    }

    /** The bytes that were fed, and behind scan() their tokens. */
    private static final class Tape {
        int length;
        private final byte[] bytes = new byte[MOST_BYTES];
        /** Up to the end of the tape, or up to the first token that cannot stand in any text. */
        final Sign[] signs = new Sign[MOST_TOKENS + 1];
        final int[] starts = new int[MOST_TOKENS + 1];
        /** Of a number what it is; of a word one that no other word has. */
        final long[] values = new long[MOST_TOKENS + 1];
        /** How far the tokens have been read. */
        private int end;

        Tape() {
            for (int i = 0; i < signs.length; i++) {
                signs[i] = Sign.END;
            }
        }

        void append(int number) {
            for (int shift = 24; shift >= 0; shift -= 8) {
                if (length < bytes.length) {
                    bytes[length] = (byte) (number >>> shift);
                    length++;
                }
            }
        }

        void scan() {
            end = 0;
            for (int i = 0; i <= MOST_TOKENS; i++) {
                skipBlanks();
                starts[i] = end;
                signs[i] = i < MOST_TOKENS || end >= length ? scanToken(i) : Sign.NO_TOKEN;
                if (signs[i] == Sign.END || signs[i] == Sign.NO_TOKEN) {
                    return;
                }
            }
        }

        private void skipBlanks() {
            while (end < length && (at(end) == ' ' || at(end) == '\n')) {
                end++;
            }
        }

        private Sign scanToken(int i) {
            if (end >= length) {
                return Sign.END;
            }
            if (isLetter(end)) {
                return scanWord(i);
            }
            return isDigit(end) ? scanNumber(i) : scanSymbol();
        }

        private Sign scanWord(int i) {
            int start = end;
            long value = 0;
            while (end < length && (isLetter(end) || isDigit(end))) {
                // 37 to the power of 10 fits into a long: so no two words have the same value.
                int letter = isLetter(end) ? at(end) - 'a' + 11 : at(end) - '0' + 1;
                value = value * 37 + letter;
                end++;
            }
            values[i] = value;
            return end - start > MOST_LETTERS ? Sign.NO_TOKEN : signOf(start, end - start, Sign.NAME);
        }

        private Sign scanNumber(int i) {
            int start = end;
            long value = 0;
            while (end < length && isDigit(end)) {
                value = value * 10 + (at(end) - '0');
                end++;
            }
            values[i] = value;
            return end - start > MOST_DIGITS ? Sign.NO_TOKEN : Sign.NUMBER;
        }

        private Sign scanSymbol() {
            for (int size = 2; size >= 1; size--) {
                Sign sign = signOf(end, size, Sign.NO_TOKEN);
                if (sign != Sign.NO_TOKEN) {
                    end += size;
                    return sign;
                }
            }
            return Sign.NO_TOKEN;
        }

        private Sign signOf(int from, int size, Sign otherwise) {
            for (Sign sign : SIGNS) {
                if (reads(sign.text, from, size)) {
                    return sign;
                }
            }
            return otherwise;
        }

        private boolean reads(String text, int from, int size) {
            if (text.length() != size) {
                return false;
            }
            for (int i = 0; i < size; i++) {
                if (at(from + i) != text.charAt(i)) {
                    return false;
                }
            }
            return true;
        }

        private boolean isLetter(int position) {
            return at(position) >= 'a' && at(position) <= 'z';
        }

        private boolean isDigit(int position) {
            return at(position) >= '0' && at(position) <= '9';
        }

        private int at(int position) {
            return position >= 0 && position < length ? bytes[position] : 0;
        }
    }

    /** The names of one sort, numbered as they are told. */
    private static final class Names {
        private final long[] words;
        private int size;

        Names(int most) {
            words = new long[Math.max(most, 0)];
        }

        int find(long word) {
            for (int i = 0; i < size; i++) {
                if (words[i] == word) {
                    return i;
                }
            }
            return -1;
        }

        boolean add(long word) {
            if (size >= words.length) {
                return false;
            }
            words[size] = word;
            size++;
            return true;
        }
    }

    /**
     * Reads a text from left to right, and builds a shore of it. Error 1 ends the reading. Of the other errors only
     * the first one is noted, and the reading goes on, since an error 1 further behind counts for more. What is built
     * with an error is thrown away: it only has to keep to its limits.
     */
    private static final class Reader {
        int errorAt = -1;
        private final Tape tape;
        private final Shore built;
        private final Names groundNames = new Names(MOST_GROUNDS);
        private final Names fisherNames = new Names(MOST_FISHERS);
        private final Names pactNames = new Names(MOST_PACTS);
        /** The token that is looked at. */
        private int at;
        private int error;
        /** What takeNumber or takeKnown has taken last. */
        private int number;

        Reader(Tape tape, Shore built) {
            this.tape = tape;
            this.built = built;
        }

        int read() {
            built.forget();
            boolean isText = true;
            for (int line = 0; line < MOST_TOKENS && isText && sign() != Sign.END; line++) {
                switch (sign()) {
                    case GROUND: isText = groundLine(); break;
                    case FISHER: isText = fisherLine(); break;
                    case GO: isText = goLine(); break;
                    case PACT: isText = pactLine(); break;
                    default: isText = false;
                }
                isText = isText && take(Sign.SEMICOLON);
            }
            if (!isText) {
                error = BROKEN_TEXT;
                errorAt = tape.starts[at];
            }
            return error;
        }

        private boolean groundLine() {
            if (!take(Sign.GROUND) || !takeNew(groundNames)) {
                return false;
            }
            Ground ground = built.nextGround();
            if (!take(Sign.ROOM) || !takeNumber(1, 8)) {
                return false;
            }
            ground.room = number;
            if (!take(Sign.FISH) || !takeFish(1, ground)) {
                return false;
            }
            for (int size = 2; size <= MOST_TOKENS && take(Sign.COMMA); size++) {
                if (!takeFish(size, ground)) {
                    return false;
                }
            }
            return true;
        }

        private boolean takeFish(int size, Ground ground) {
            if (sign() == Sign.NUMBER && size > SIZES) {
                noteError(TOO_MANY);
            }
            if (!takeNumber(0, MOST_OF_A_SIZE)) {
                return false;
            }
            if (size <= SIZES) {
                ground.fish[size] = number;
            }
            return true;
        }

        private boolean fisherLine() {
            if (!take(Sign.FISHER) || !takeNew(fisherNames)) {
                return false;
            }
            Fisher fisher = built.nextFisher();
            if (!take(Sign.MESH) || !takeNumber(1, SIZES)) {
                return false;
            }
            fisher.toldMesh = number;
            fisher.mesh = number;
            if (!take(Sign.NET) || !takeNumber(1, 99)) {
                return false;
            }
            fisher.net = number;
            if (!take(Sign.HOLD) || !takeNumber(1, 40)) {
                return false;
            }
            fisher.hold = number;
            return true;
        }

        private boolean goLine() {
            if (built.goCount >= MOST_GOES) {
                noteError(TOO_MANY);
            }
            Go go = built.nextGo();
            if (!take(Sign.GO) || !takeKnown(fisherNames)) {
                return false;
            }
            go.fisher = number;
            if (!take(Sign.TO) || !takeKnown(groundNames)) {
                return false;
            }
            go.ground = number;
            go.testStart = built.sums.length;
            if (take(Sign.WHEN) && !test(0)) {
                return false;
            }
            go.testEnd = built.sums.length;
            return true;
        }

        private boolean pactLine() {
            if (!take(Sign.PACT) || !takeNew(pactNames)) {
                return false;
            }
            Pact pact = built.nextPact();
            if (!take(Sign.OF) || !takeMember(pact)) {
                return false;
            }
            for (int i = 0; i < MOST_TOKENS && take(Sign.COMMA); i++) {
                if (!takeMember(pact)) {
                    return false;
                }
            }
            if (take(Sign.SPLIT)) {
                return true;
            }
            if (!take(Sign.SPARE) || !takeKnown(groundNames)) {
                return false;
            }
            pact.ground = number;
            pact.sumStart = built.sums.length;
            if (!take(Sign.BELOW) || !sum(0)) {
                return false;
            }
            pact.sumEnd = built.sums.length;
            return true;
        }

        private boolean takeMember(Pact pact) {
            if (sign() == Sign.NAME && pact.has(fisherNames.find(tape.values[at]))) {
                noteError(TWICE_IN_PACT);
            }
            if (!takeKnown(fisherNames)) {
                return false;
            }
            pact.add(number);
            return true;
        }

        private boolean test(int depth) {
            if (!both(depth)) {
                return false;
            }
            for (int i = 0; i < MOST_TOKENS && take(Sign.OR); i++) {
                if (!both(depth)) {
                    return false;
                }
                built.sums.add(Sign.OR, 0);
            }
            return true;
        }

        private boolean both(int depth) {
            if (!single(depth)) {
                return false;
            }
            for (int i = 0; i < MOST_TOKENS && take(Sign.AND); i++) {
                if (!single(depth)) {
                    return false;
                }
                built.sums.add(Sign.AND, 0);
            }
            return true;
        }

        private boolean single(int depth) {
            Sign sign = sign();
            switch (sign) {
                case NOT:
                    if (depth >= MOST_DEPTH || !take(Sign.NOT) || !single(depth + 1)) {
                        return false;
                    }
                    built.sums.add(Sign.NOT, 0);
                    return true;
                case OPEN_TEST:
                    return depth < MOST_DEPTH && take(Sign.OPEN_TEST) && test(depth + 1) && take(Sign.CLOSE_TEST);
                case CHEATS:
                    if (!take(Sign.CHEATS) || !takeKnown(fisherNames)) {
                        return false;
                    }
                    built.sums.add(Sign.CHEATS, number);
                    return true;
                default:
                    return sum(depth) && comparedSum(depth);
            }
        }

        private boolean comparedSum(int depth) {
            Sign comparison = sign();
            switch (comparison) {
                case LESS: case GREATER: case EQUAL: case AT_MOST: case AT_LEAST:
                    if (!take(comparison) || !sum(depth)) {
                        return false;
                    }
                    built.sums.add(comparison, 0);
                    return true;
                default:
                    return false;
            }
        }

        private boolean sum(int depth) {
            if (!product(depth)) {
                return false;
            }
            for (int i = 0; i < MOST_TOKENS && (sign() == Sign.PLUS || sign() == Sign.MINUS); i++) {
                Sign operation = sign();
                if (!take(operation) || !product(depth)) {
                    return false;
                }
                built.sums.add(operation, 0);
            }
            return true;
        }

        private boolean product(int depth) {
            if (!value(depth)) {
                return false;
            }
            for (int i = 0; i < MOST_TOKENS && (sign() == Sign.TIMES || sign() == Sign.OVER); i++) {
                Sign operation = sign();
                if (!take(operation) || !value(depth)) {
                    return false;
                }
                built.sums.add(operation, 0);
            }
            return true;
        }

        private boolean value(int depth) {
            Sign sign = sign();
            boolean isValue;
            switch (sign) {
                case NUMBER:
                    isValue = takeNumber(0, MOST_NUMBER);
                    break;
                case TIDE:
                    isValue = take(sign);
                    break;
                case STORE: case CATCH: case MESH:
                    isValue = take(sign) && takeKnown(fisherNames);
                    break;
                case FISH: case BOATS:
                    isValue = take(sign) && takeKnown(groundNames);
                    break;
                case MINUS:
                    sign = Sign.NEGATE;
                    isValue = depth < MOST_DEPTH && take(Sign.MINUS) && value(depth + 1);
                    break;
                case OPEN:
                    return depth < MOST_DEPTH && take(sign) && sum(depth + 1) && take(Sign.CLOSE);
                case MIN: case MAX:
                    isValue = take(sign) && depth < MOST_DEPTH && take(Sign.OPEN) && sum(depth + 1)
                            && take(Sign.COMMA) && sum(depth + 1) && take(Sign.CLOSE);
                    break;
                default:
                    return false;
            }
            built.sums.add(sign, number);
            return isValue;
        }

        private boolean takeNew(Names names) {
            if (sign() != Sign.NAME) {
                return false;
            }
            long word = tape.values[at];
            if (names.find(word) >= 0) {
                noteError(TOLD_TWICE);
            } else if (!names.add(word)) {
                noteError(TOO_MANY);
            }
            return take(Sign.NAME);
        }

        private boolean takeKnown(Names names) {
            if (sign() != Sign.NAME) {
                return false;
            }
            number = names.find(tape.values[at]);
            if (number < 0) {
                noteError(NOT_TOLD);
                // What is built is lost, but must not hold a number that is no index.
                number = 0;
            }
            return take(Sign.NAME);
        }

        private boolean takeNumber(int least, int most) {
            if (sign() != Sign.NUMBER) {
                return false;
            }
            number = (int) tape.values[at];
            if (number < least || number > most) {
                noteError(OUT_OF_RANGE);
            }
            return take(Sign.NUMBER);
        }

        private Sign sign() {
            return tape.signs[at];
        }

        private boolean take(Sign sign) {
            if (at >= MOST_TOKENS || tape.signs[at] != sign) {
                return false;
            }
            at++;
            return true;
        }

        private void noteError(int found) {
            if (error == 0) {
                error = found;
                errorAt = tape.starts[at];
            }
        }
    }

    /** All tests and sums of a text, one behind the other, each operation behind what it is done with. */
    private static final class Sums {
        int length;
        private final Sign[] signs = new Sign[MOST_TOKENS];
        private final int[] values = new int[MOST_TOKENS];
        private final int[] stack = new int[MOST_TOKENS];

        Sums() {
            for (int i = 0; i < signs.length; i++) {
                signs[i] = Sign.NUMBER;
            }
        }

        void add(Sign sign, int value) {
            if (length < MOST_TOKENS) {
                signs[length] = sign;
                values[length] = value;
                length++;
            }
        }

        void copyFrom(Sums from) {
            length = from.length;
            for (int i = 0; i < length; i++) {
                signs[i] = from.signs[i];
                values[i] = from.values[i];
            }
        }

        /** What the sum from start to end is; of a test 1 if it holds, else 0. */
        int reckon(int start, int end, Shore shore) {
            int top = 0;
            for (int i = start; i < end && i < length; i++) {
                switch (signs[i]) {
                    case NUMBER: case TIDE: case STORE: case CATCH: case MESH: case FISH: case BOATS: case CHEATS:
                        if (top < stack.length) {
                            stack[top] = valueOn(shore, signs[i], values[i]);
                            top++;
                        }
                        break;
                    case NOT:
                    case NEGATE:
                        if (top >= 1) {
                            stack[top - 1] = signs[i] == Sign.NOT ? 1 - stack[top - 1] : -stack[top - 1];
                        }
                        break;
                    default:
                        if (top >= 2) {
                            top--;
                            stack[top - 1] = combine(signs[i], stack[top - 1], stack[top]);
                        }
                }
            }
            return top > 0 ? stack[0] : 0;
        }

        private static int valueOn(Shore shore, Sign sign, int value) {
            switch (sign) {
                case TIDE: return shore.tide;
                case STORE: return shore.fishers[value].store;
                case CATCH: return shore.fishers[value].latest;
                case MESH: return shore.fishers[value].mesh;
                case CHEATS: return shore.fishers[value].isCheat ? 1 : 0;
                case FISH: return shore.grounds[value].allFish();
                case BOATS: return shore.grounds[value].boats;
                default: return value;
            }
        }

        private static int combine(Sign sign, int a, int b) {
            switch (sign) {
                case PLUS: return a + b;
                case MINUS: return a - b;
                case TIMES: return a * b;
                case OVER: return b == 0 ? 0 : a / b;
                case MIN: return Math.min(a, b);
                case MAX: return Math.max(a, b);
                case AND: return a & b;
                case OR: return a | b;
                case LESS: return a < b ? 1 : 0;
                case GREATER: return a > b ? 1 : 0;
                case EQUAL: return a == b ? 1 : 0;
                case AT_MOST: return a <= b ? 1 : 0;
                case AT_LEAST: return a >= b ? 1 : 0;
                default: return 0;
            }
        }
    }

    private static final class Ground {
        int room;
        int boats;
        int caught;
        /** By size; the place 0 is of no use. */
        final int[] fish = new int[SIZES + 1];

        void copyFrom(Ground from) {
            room = from.room;
            boats = from.boats;
            caught = from.caught;
            for (int size = 1; size <= SIZES; size++) {
                fish[size] = from.fish[size];
            }
        }

        int allFish() {
            int all = 0;
            for (int size = 1; size <= SIZES; size++) {
                all += fish[size];
            }
            return all;
        }

        void grow() {
            for (int size = SIZES - 1; size >= 1; size--) {
                int grown = fish[size] / 5;
                fish[size] -= grown;
                fish[size + 1] = Math.min(fish[size + 1] + grown, MOST_OF_A_SIZE);
            }
            fish[1] = Math.min(fish[1] + allFish() / 6, MOST_OF_A_SIZE);
        }
    }

    private static final class Fisher {
        int toldMesh;
        int mesh;
        int net;
        int hold;
        int store;
        int latest;
        /** The ground of the latest tide; -1 at home. */
        int place = -1;
        int tears;
        int caught;
        boolean isCheat;
        /** By ground. */
        final int[] took = new int[MOST_GROUNDS];

        void copyFrom(Fisher from) {
            toldMesh = from.toldMesh;
            mesh = from.mesh;
            net = from.net;
            hold = from.hold;
            store = from.store;
            latest = from.latest;
            place = from.place;
            tears = from.tears;
            caught = from.caught;
            isCheat = from.isCheat;
            for (int i = 0; i < MOST_GROUNDS; i++) {
                took[i] = from.took[i];
            }
        }

        void tear() {
            mesh = Math.min(mesh + 1, MOST_MESH);
            tears++;
        }
    }

    private static final class Go {
        int fisher;
        int ground;
        int testStart;
        int testEnd;

        void copyFrom(Go from) {
            fisher = from.fisher;
            ground = from.ground;
            testStart = from.testStart;
            testEnd = from.testEnd;
        }
    }

    private static final class Pact {
        /** The one that it spares; -1 if it splits. */
        int ground = -1;
        int sumStart;
        int sumEnd;
        int size;
        final int[] fishers = new int[MOST_FISHERS];
        int shown;
        int hidden;
        int hidingTides;

        void copyFrom(Pact from) {
            ground = from.ground;
            sumStart = from.sumStart;
            sumEnd = from.sumEnd;
            size = from.size;
            shown = from.shown;
            hidden = from.hidden;
            hidingTides = from.hidingTides;
            for (int i = 0; i < MOST_FISHERS; i++) {
                fishers[i] = from.fishers[i];
            }
        }

        boolean splits() {
            return ground < 0;
        }

        boolean has(int fisher) {
            for (int i = 0; i < size; i++) {
                if (fishers[i] == fisher) {
                    return true;
                }
            }
            return false;
        }

        void add(int fisher) {
            if (size < MOST_FISHERS) {
                fishers[size] = fisher;
                size++;
            }
        }
    }

    /** All that was told, and what has become of it. Each number that it keeps of a ground or a fisher is an index. */
    private static final class Shore {
        int tide;
        /** The number l of the lots. */
        int luck = 1;
        int groundCount;
        int fisherCount;
        int goCount;
        int pactCount;
        final Ground[] grounds = new Ground[MOST_GROUNDS];
        final Fisher[] fishers = new Fisher[MOST_FISHERS];
        final Go[] goes = new Go[MOST_GOES];
        final Pact[] pacts = new Pact[MOST_PACTS];
        final Sums sums = new Sums();
        /** The fishers by their lots; of use only just behind drawLots(). */
        final int[] lots = new int[MOST_FISHERS];
        private final int[] row = new int[MOST_FISHERS];
        private final int[] haul = new int[SIZES + 1];
        private final Ground newGround = new Ground();
        private final Fisher newFisher = new Fisher();
        private final Pact newPact = new Pact();

        Shore() {
            for (int i = 0; i < MOST_GROUNDS; i++) {
                grounds[i] = new Ground();
            }
            for (int i = 0; i < MOST_FISHERS; i++) {
                fishers[i] = new Fisher();
            }
            for (int i = 0; i < MOST_GOES; i++) {
                goes[i] = new Go();
            }
            for (int i = 0; i < MOST_PACTS; i++) {
                pacts[i] = new Pact();
            }
        }

        void forget() {
            groundCount = 0;
            fisherCount = 0;
            goCount = 0;
            pactCount = 0;
            sums.length = 0;
        }

        // Of too many the last one is told again: the text has an error then, and the shore is thrown away.

        Ground nextGround() {
            groundCount = Math.min(groundCount + 1, MOST_GROUNDS);
            Ground ground = grounds[groundCount - 1];
            ground.copyFrom(newGround);
            return ground;
        }

        Fisher nextFisher() {
            fisherCount = Math.min(fisherCount + 1, MOST_FISHERS);
            Fisher fisher = fishers[fisherCount - 1];
            fisher.copyFrom(newFisher);
            return fisher;
        }

        Go nextGo() {
            goCount = Math.min(goCount + 1, MOST_GOES);
            return goes[goCount - 1];
        }

        Pact nextPact() {
            pactCount = Math.min(pactCount + 1, MOST_PACTS);
            Pact pact = pacts[pactCount - 1];
            pact.copyFrom(newPact);
            return pact;
        }

        void copyFrom(Shore from) {
            tide = from.tide;
            luck = from.luck;
            groundCount = from.groundCount;
            fisherCount = from.fisherCount;
            goCount = from.goCount;
            pactCount = from.pactCount;
            for (int i = 0; i < groundCount; i++) {
                grounds[i].copyFrom(from.grounds[i]);
            }
            for (int i = 0; i < fisherCount; i++) {
                fishers[i].copyFrom(from.fishers[i]);
            }
            for (int i = 0; i < goCount; i++) {
                goes[i].copyFrom(from.goes[i]);
            }
            for (int i = 0; i < pactCount; i++) {
                pacts[i].copyFrom(from.pacts[i]);
            }
            sums.copyFrom(from.sums);
        }

        int allFish() {
            int all = 0;
            for (int i = 0; i < groundCount; i++) {
                all += grounds[i].allFish();
            }
            return all;
        }

        int allStores() {
            int all = 0;
            for (int i = 0; i < fisherCount; i++) {
                all += fishers[i].store;
            }
            return all;
        }

        int widenedNets() {
            int widened = 0;
            for (int i = 0; i < fisherCount; i++) {
                widened += fishers[i].mesh > fishers[i].toldMesh ? 1 : 0;
            }
            return widened;
        }

        int allCheats() {
            int cheats = 0;
            for (int i = 0; i < fisherCount; i++) {
                cheats += fishers[i].isCheat ? 1 : 0;
            }
            return cheats;
        }

        int storeGap() {
            if (fisherCount == 0) {
                return 0;
            }
            int least = fishers[0].store;
            int greatest = least;
            for (int i = 1; i < fisherCount; i++) {
                least = Math.min(least, fishers[i].store);
                greatest = Math.max(greatest, fishers[i].store);
            }
            return greatest - least;
        }

        /** Tells in lots who has which lot of the next tide; the answer is what luck is behind it. */
        int drawLots() {
            int drawn = luck;
            for (int i = 0; i < fisherCount; i++) {
                row[i] = i;
            }
            for (int left = fisherCount; left > 0; left--) {
                drawn = drawn * 69069 + 1;
                int place = (drawn >>> 16) % left;
                lots[fisherCount - left] = row[place];
                for (int i = place; i + 1 < left; i++) {
                    row[i] = row[i + 1];
                }
            }
            return drawn;
        }

        /** The answer is how much came into all stores. */
        int passTides(int tides) {
            int income = 0;
            for (int i = 0; i < tides; i++) {
                luck = drawLots();
                callBoatsHome();
                for (int lot = 0; lot < fisherCount; lot++) {
                    sail(lots[lot], firstGo(lots[lot]));
                }
                for (int pact = 0; pact < pactCount; pact++) {
                    split(pacts[pact]);
                }
                income += storeCatches();
                for (int ground = 0; ground < groundCount; ground++) {
                    grounds[ground].grow();
                }
                tide++;
            }
            return income;
        }

        private void callBoatsHome() {
            for (int i = 0; i < groundCount; i++) {
                grounds[i].boats = 0;
            }
        }

        /** The ground of the first go that this fisher can take; -1 if there is none. */
        private int firstGo(int fisher) {
            for (int i = 0; i < goCount; i++) {
                Go go = goes[i];
                if (go.fisher != fisher || grounds[go.ground].boats >= grounds[go.ground].room) {
                    continue;
                }
                boolean holds = go.testStart == go.testEnd || sums.reckon(go.testStart, go.testEnd, this) != 0;
                if (holds && !isSpared(go.ground, fisher)) {
                    return go.ground;
                }
            }
            return -1;
        }

        private boolean isSpared(int ground, int fisher) {
            if (fishers[fisher].isCheat) {
                return false;
            }
            for (int i = 0; i < pactCount; i++) {
                Pact pact = pacts[i];
                if (pact.ground == ground && pact.has(fisher)
                        && grounds[ground].allFish() < sums.reckon(pact.sumStart, pact.sumEnd, this)) {
                    return true;
                }
            }
            return false;
        }

        private void sail(int number, int place) {
            Fisher fisher = fishers[number];
            fisher.place = place;
            fisher.latest = 0;
            if (place >= 0) {
                Ground ground = grounds[place];
                ground.boats++;
                haulFrom(ground, fisher);
                int kept = landHaul(ground, fisher);
                fisher.took[place] += kept;
            }
        }

        /** Fills haul with what goes into the net, by sizes; the fish are still in the ground, too. */
        private void haulFrom(Ground ground, Fisher fisher) {
            int mesh = fisher.mesh;
            int caught = 0;
            int weight = 0;
            boolean isTorn = false;
            for (int size = SIZES; size >= 1; size--) {
                haul[size] = 0;
                if (size >= mesh && !isTorn) {
                    int wanted = Math.min(ground.fish[size], fisher.hold - caught);
                    int carried = (fisher.net - weight) / size;
                    isTorn = wanted > carried;
                    haul[size] = isTorn ? carried : wanted;
                    caught += haul[size];
                    weight += haul[size] * size;
                }
            }
            if (isTorn) {
                fisher.tear();
            }
        }

        /** Takes from the ground what the net, perhaps torn by now, keeps; the answer is how many fish that are. */
        private int landHaul(Ground ground, Fisher fisher) {
            int kept = 0;
            for (int size = 1; size <= SIZES; size++) {
                if (size >= fisher.mesh) {
                    kept += haul[size];
                    fisher.latest += haul[size] * size;
                    ground.fish[size] -= haul[size];
                }
            }
            fisher.caught += kept;
            ground.caught += kept;
            return kept;
        }

        private void split(Pact pact) {
            if (!pact.splits() || pact.size < 1) {
                return;
            }
            int shown = 0;
            int hidden = 0;
            for (int i = 0; i < pact.size; i++) {
                Fisher fisher = fishers[pact.fishers[i]];
                int shows = fisher.isCheat ? fisher.latest / 2 : fisher.latest;
                fisher.latest -= shows;
                shown += shows;
                hidden += fisher.latest;
            }
            int share = shown / pact.size;
            for (int i = 0; i < pact.size; i++) {
                fishers[pact.fishers[i]].latest += share;
            }
            fishers[pact.fishers[0]].latest += shown - share * pact.size;
            pact.shown += shown;
            pact.hidden += hidden;
            pact.hidingTides += hidden > 0 ? 1 : 0;
        }

        private int storeCatches() {
            int income = 0;
            for (int i = 0; i < fisherCount; i++) {
                fishers[i].store += fishers[i].latest;
                income += fishers[i].latest;
            }
            return income;
        }
    }
}
