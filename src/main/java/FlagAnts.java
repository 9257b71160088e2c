/** Ants on a yard of flagstones, told by a small language. */
public final class FlagAnts {
    private static final int SIZE = 64;
    private static final int STONES = SIZE * SIZE;
    private static final int COLOURS = 6;
    private static final int SIDES = 4;
    private static final int COUNTS = 11;
    private static final int ANT_ANSWERS = 9;
    private static final int MAX_PASS = 1000;
    private static final int MAX_SEARCH = 2000;
    private static final int MAX_ADVICE = 300;
    private static final int ADVISED_ROWS = 8;

    private final Tape tape;
    private final Program program;
    private final Yard yard;
    private final Yard trial;
    private final Parser parser;
    private final Stepper stepper;
    private int errorPlace;

    public FlagAnts() {
        tape = new Tape();
        program = new Program();
        yard = new Yard();
        trial = new Yard();
        parser = new Parser(tape, trial);
        stepper = new Stepper(program);
        errorPlace = -1;
    }

    // ---- the language

    public int feed(int a, int b, int c, int d, int e) throws IllegalStateException {
        if (!tape.hasRoom(20)) {
            throw new IllegalStateException("the tape holds at most 2000 bytes");
        }
        tape.append(a);
        tape.append(b);
        tape.append(c);
        tape.append(d);
        tape.append(e);
        return tape.length;
    }

    public int trim(int n) throws IllegalArgumentException {
        if (n < 0 || n > tape.length) {
            throw new IllegalArgumentException("no such length of the tape");
        }
        tape.length = n;
        return n;
    }

    public int teach() {
        int error = parser.read();
        errorPlace = error == 0 ? -1 : parser.errorPlace;
        tape.length = 0;
        if (error == 0) {
            program.copyFrom(parser.draft);
            yard.copyFrom(trial);
        }
        return error;
    }

    public int errorAt() {
        return errorPlace;
    }

    public int count(int what) throws IndexOutOfBoundsException {
        if (what < 0 || what >= COUNTS) {
            throw new IndexOutOfBoundsException("what is not 0 to 10");
        }
        switch (what) {
            case 0: return yard.steps;
            case 1: return program.ruleCount;
            case 2: return yard.antCount;
            case 3: return program.orderCount;
            case 10: return tape.length;
            default: return yard.total(what);
        }
    }

    // ---- what there is

    public int stone(int column, int row) throws IndexOutOfBoundsException {
        if (!isStone(column, row)) {
            throw new IndexOutOfBoundsException("no such stone");
        }
        return yard.colourAt(row * SIZE + column);
    }

    public int colour(int colour) throws IndexOutOfBoundsException {
        if (!isColour(colour)) {
            throw new IndexOutOfBoundsException("no such colour");
        }
        return yard.colours[colour];
    }

    public int row(int row) throws IndexOutOfBoundsException {
        if (!isLine(row)) {
            throw new IndexOutOfBoundsException("no such row");
        }
        return yard.rowDark[row];
    }

    public int turn(int rule, int colour) throws IndexOutOfBoundsException {
        if (rule < 0 || rule >= program.ruleCount || !isColour(colour)) {
            throw new IndexOutOfBoundsException("no such rule or colour");
        }
        return program.turnFor(rule, colour);
    }

    public int ant(int ant, int what) throws IndexOutOfBoundsException {
        if (!isAnt(ant) || what < 0 || what >= ANT_ANSWERS) {
            throw new IndexOutOfBoundsException("no such ant, or what is not 0 to 8");
        }
        return yard.ants[ant].answer(what);
    }

    // ---- by hand

    public int paint(int column, int row, int colour) throws IndexOutOfBoundsException, IllegalArgumentException {
        if (!isStone(column, row)) {
            throw new IndexOutOfBoundsException("no such stone");
        }
        if (!isColour(colour)) {
            throw new IllegalArgumentException("no such colour");
        }
        int place = row * SIZE + column;
        int before = yard.colourAt(place);
        yard.setStone(place, colour);
        return before;
    }

    public int wash(int from, int to) throws IndexOutOfBoundsException, IllegalArgumentException {
        if (!isLine(from) || !isLine(to)) {
            throw new IndexOutOfBoundsException("no such row");
        }
        if (from > to) {
            throw new IllegalArgumentException("the first row is behind the last one");
        }
        return yard.washRows(from, to);
    }

    public int face(int ant, int side) throws IndexOutOfBoundsException {
        if (!isAnt(ant) || side < 0 || side >= SIDES) {
            throw new IndexOutOfBoundsException("no such ant or side");
        }
        int before = yard.ants[ant].side;
        yard.ants[ant].turnTo(side);
        return before;
    }

    public boolean halt(int ant) throws IndexOutOfBoundsException {
        if (!isAnt(ant)) {
            throw new IndexOutOfBoundsException("no such ant");
        }
        yard.ants[ant].walks = !yard.ants[ant].walks;
        return yard.ants[ant].walks;
    }

    public int place(int ant, int column, int row) throws IndexOutOfBoundsException {
        if (!isAnt(ant) || !isStone(column, row)) {
            throw new IndexOutOfBoundsException("no such ant or stone");
        }
        int before = yard.ants[ant].stoneUnder();
        yard.ants[ant].moveTo(column, row);
        return before;
    }

    // ---- steps and what would be

    public int pass(int steps) throws IllegalArgumentException {
        if (steps < 1 || steps > MAX_PASS) {
            throw new IllegalArgumentException("steps is not 1 to 1000");
        }
        int before = yard.darkStones();
        stepper.makeSteps(yard, steps);
        return yard.darkStones() - before;
    }

    public int foresee(int steps, int what) throws IllegalArgumentException, IndexOutOfBoundsException {
        if (steps < 1 || steps > MAX_PASS) {
            throw new IllegalArgumentException("steps is not 1 to 1000");
        }
        if (what < 4 || what > 9) {
            throw new IndexOutOfBoundsException("what is not 4 to 9");
        }
        trial.copyFrom(yard);
        stepper.makeSteps(trial, steps);
        return trial.total(what);
    }

    public int until(int ant, int column, int row) throws IndexOutOfBoundsException {
        if (!isAnt(ant) || !isStone(column, row)) {
            throw new IndexOutOfBoundsException("no such ant or stone");
        }
        int goal = row * SIZE + column;
        trial.copyFrom(yard);
        for (int passed = 0; passed < MAX_SEARCH; passed++) {
            if (trial.ants[ant].stoneUnder() == goal) {
                return passed;
            }
            stepper.makeStep(trial);
        }
        return trial.ants[ant].stoneUnder() == goal ? MAX_SEARCH : -1;
    }

    public int found() {
        trial.copyFrom(yard);
        for (int passed = 0; passed < MAX_SEARCH; passed++) {
            if (trial.hasHighway()) {
                return passed;
            }
            stepper.makeStep(trial);
        }
        return trial.hasHighway() ? MAX_SEARCH : -1;
    }

    public int advise(int steps) throws IllegalArgumentException {
        if (steps < 1 || steps > MAX_ADVICE) {
            throw new IllegalArgumentException("steps is not 1 to 300");
        }
        trial.copyFrom(yard);
        stepper.makeSteps(trial, steps);
        int fewest = trial.darkStones();
        int best = -1;
        for (int from = 0; from < SIZE; from += ADVISED_ROWS) {
            trial.copyFrom(yard);
            trial.washRows(from, from + ADVISED_ROWS - 1);
            stepper.makeSteps(trial, steps);
            if (trial.darkStones() < fewest) {
                fewest = trial.darkStones();
                best = from;
            }
        }
        return best;
    }

    public double mean() {
        return (double) yard.colourSum() / (double) STONES;
    }

    public long digest() {
        long d = 911L;
        for (int what = 0; what < COUNTS; what++) {
            d = d * 31L + count(what);
        }
        for (int rule = 0; rule < program.ruleCount; rule++) {
            for (int colour = 0; colour < COLOURS; colour++) {
                d = d * 31L + program.turnFor(rule, colour);
            }
        }
        for (int ant = 0; ant < yard.antCount; ant++) {
            for (int what = 0; what < ANT_ANSWERS; what++) {
                d = d * 31L + yard.ants[ant].answer(what);
            }
        }
        for (int place = 0; place < STONES; place++) {
            d = d * 31L + yard.colourAt(place);
        }
        return d;
    }

    private boolean isAnt(int ant) {
        return ant >= 0 && ant < yard.antCount;
    }

    private static boolean isLine(int number) {
        return number >= 0 && number < SIZE;
    }

    private static boolean isStone(int column, int row) {
        return isLine(column) && isLine(row);
    }

    private static boolean isColour(int colour) {
        return colour >= 0 && colour < COLOURS;
    }

    /** The bytes that are read as a list. */
    private static final class Tape {
        static final int MAX_BYTES = 2000;

        final int[] bytes = new int[MAX_BYTES];
        int length;

        boolean hasRoom(int more) {
            return length + more <= MAX_BYTES;
        }

        void append(int four) {
            if (!hasRoom(4)) {
                return;
            }
            for (int shift = 24; shift >= 0; shift -= 8) {
                bytes[length] = (four >>> shift) & 255;
                length++;
            }
        }

        /** The byte at a position, or -1 where the tape has none. */
        int byteAt(int at) {
            return at >= 0 && at < length ? bytes[at] : -1;
        }

        int skipBlanks(int from) {
            int at = from;
            while (at < length && (byteAt(at) == 32 || byteAt(at) == 10)) {
                at++;
            }
            return at;
        }
    }

    /** The kinds of tokens; a symbol of one byte has this byte as its kind. */
    private static final class Kind {
        static final int END = 0;
        static final int BAD = 1;
        static final int NAME = 2;
        static final int NUMBER = 3;
        static final int NEGATE = 4;
        static final int AT_MOST = 128;
        static final int AT_LEAST = 129;

        /** The keywords are numbered from FIRST_WORD in the order of WORDS. */
        static final String WORDS = "rule left right straight back ant of at faces north east south west paint wash to face halt walk when step dark across down period row meets halted not and or min max ";
        static final int WORD_COUNT = 33;
        static final int FIRST_WORD = 200;
        static final int RULE = 200;
        static final int LEFT = 201;
        static final int BACK = 204;
        static final int ANT = 205;
        static final int OF = 206;
        static final int AT = 207;
        static final int FACES = 208;
        static final int NORTH = 209;
        static final int WEST = 212;
        static final int PAINT = 213;
        static final int WASH = 214;
        static final int TO = 215;
        static final int FACE = 216;
        static final int HALT = 217;
        static final int WALK = 218;
        static final int WHEN = 219;
        static final int STEP = 220;
        static final int DARK = 221;
        static final int ACROSS = 222;
        static final int DOWN = 223;
        static final int PERIOD = 224;
        static final int ROW = 225;
        static final int MEETS = 226;
        static final int HALTED = 227;
        static final int NOT = 228;
        static final int AND = 229;
        static final int OR = 230;
        static final int MIN = 231;
        static final int MAX = 232;
    }

    /** The tokens of the tape, closed by one of the kind END or BAD. */
    private static final class Tokens {
        static final int MAX_TOKENS = 400;
        static final int LONGEST_WORD = 10;
        static final int LONGEST_NUMBER = 6;

        final Tape tape;
        final long[] words = new long[Kind.WORD_COUNT];
        final int[] kinds = new int[MAX_TOKENS + 1];
        final int[] starts = new int[MAX_TOKENS + 1];
        final long[] values = new long[MAX_TOKENS + 1];
        int size;

        Tokens(Tape tape) {
            this.tape = tape;
            packWords();
        }

        private void packWords() {
            int word = 0;
            long packed = 0;
            for (int i = 0; i < Kind.WORDS.length(); i++) {
                char sign = Kind.WORDS.charAt(i);
                if (sign != ' ') {
                    packed = addSign(packed, sign);
                } else if (word < Kind.WORD_COUNT) {
                    words[word] = packed;
                    word++;
                    packed = 0;
                }
            }
        }

        /** A word of ten signs fits into a long in base 37, so words are compared as numbers. */
        private static long addSign(long packed, int sign) {
            return packed * 37 + (isDigit(sign) ? sign - '0' + 27 : sign - 'a' + 1);
        }

        void scan() {
            size = 0;
            int at = tape.skipBlanks(0);
            for (int i = 0; i < MAX_TOKENS; i++) {
                int end = readToken(at);
                if (end == at) {
                    break;
                }
                at = tape.skipBlanks(end);
            }
            close(at);
        }

        private void close(int at) {
            if (size < kinds.length) {
                kinds[size] = at < tape.length ? Kind.BAD : Kind.END;
                starts[size] = at;
                values[size] = 0;
            }
        }

        /** Reads one token and answers where it ends; where none can be read, that is where it would begin. */
        private int readToken(int at) {
            int sign = tape.byteAt(at);
            if (isLetter(sign)) {
                return readWord(at);
            }
            if (isDigit(sign)) {
                return readNumber(at);
            }
            return readSymbol(at, sign);
        }

        private int readWord(int at) {
            long packed = 0;
            int end = at;
            while (end < tape.length && (isLetter(tape.byteAt(end)) || isDigit(tape.byteAt(end)))) {
                packed = addSign(packed, tape.byteAt(end));
                end++;
            }
            if (end - at > LONGEST_WORD) {
                return at;
            }
            add(kindOfWord(packed), at, packed);
            return end;
        }

        private int kindOfWord(long packed) {
            for (int i = 0; i < Kind.WORD_COUNT; i++) {
                if (words[i] == packed) {
                    return Kind.FIRST_WORD + i;
                }
            }
            return Kind.NAME;
        }

        private int readNumber(int at) {
            long number = 0;
            int end = at;
            while (end < tape.length && isDigit(tape.byteAt(end))) {
                number = number * 10 + tape.byteAt(end) - '0';
                end++;
            }
            if (end - at > LONGEST_NUMBER) {
                return at;
            }
            add(Kind.NUMBER, at, number);
            return end;
        }

        private int readSymbol(int at, int sign) {
            switch (sign) {
                case '<':
                case '>':
                    if (tape.byteAt(at + 1) == '=') {
                        add(sign == '<' ? Kind.AT_MOST : Kind.AT_LEAST, at, 0);
                        return at + 2;
                    }
                    add(sign, at, 0);
                    return at + 1;
                case '(':
                case ')':
                case '[':
                case ']':
                case ';':
                case ',':
                case '+':
                case '-':
                case '*':
                case '/':
                case '=':
                    add(sign, at, 0);
                    return at + 1;
                default:
                    return at;
            }
        }

        private void add(int kind, int start, long value) {
            if (size < MAX_TOKENS) {
                kinds[size] = kind;
                starts[size] = start;
                values[size] = value;
                size++;
            }
        }

        private static boolean isLetter(int sign) {
            return sign >= 'a' && sign <= 'z';
        }

        private static boolean isDigit(int sign) {
            return sign >= '0' && sign <= '9';
        }
    }

    /** The rules and the orders; tests are kept as rows of operations, operands first. */
    private static final class Program {
        static final int MAX_RULES = 5;
        static final int MAX_TURNS = 6;
        static final int MAX_ORDERS = 20;
        static final int MAX_OPERATIONS = Tokens.MAX_TOKENS;

        int ruleCount;
        final int[] ruleSizes = new int[MAX_RULES];
        final int[] turns = new int[MAX_RULES * MAX_TURNS];
        int orderCount;
        final int[] orderKinds = new int[MAX_ORDERS];
        final int[] orderFirsts = new int[MAX_ORDERS];
        final int[] orderSeconds = new int[MAX_ORDERS];
        final int[] testEnds = new int[MAX_ORDERS];
        int operationCount;
        final int[] operations = new int[MAX_OPERATIONS];
        final int[] operands = new int[MAX_OPERATIONS];

        void clear() {
            ruleCount = 0;
            orderCount = 0;
            operationCount = 0;
        }

        void copyFrom(Program other) {
            ruleCount = other.ruleCount;
            System.arraycopy(other.ruleSizes, 0, ruleSizes, 0, MAX_RULES);
            System.arraycopy(other.turns, 0, turns, 0, MAX_RULES * MAX_TURNS);
            orderCount = other.orderCount;
            System.arraycopy(other.orderKinds, 0, orderKinds, 0, MAX_ORDERS);
            System.arraycopy(other.orderFirsts, 0, orderFirsts, 0, MAX_ORDERS);
            System.arraycopy(other.orderSeconds, 0, orderSeconds, 0, MAX_ORDERS);
            System.arraycopy(other.testEnds, 0, testEnds, 0, MAX_ORDERS);
            operationCount = other.operationCount;
            System.arraycopy(other.operations, 0, operations, 0, MAX_OPERATIONS);
            System.arraycopy(other.operands, 0, operands, 0, MAX_OPERATIONS);
        }

        boolean beginRule() {
            if (ruleCount >= MAX_RULES) {
                return false;
            }
            ruleSizes[ruleCount] = 0;
            ruleCount++;
            return true;
        }

        /** Gives the latest rule one more turn. */
        boolean addTurn(int turn) {
            int rule = ruleCount - 1;
            if (rule < 0 || ruleSizes[rule] >= MAX_TURNS) {
                return false;
            }
            turns[rule * MAX_TURNS + ruleSizes[rule]] = turn;
            ruleSizes[rule]++;
            return true;
        }

        /** The number of the turn that a rule has for a colour. */
        int remainder(int rule, int colour) {
            int size = rule >= 0 && rule < ruleCount ? ruleSizes[rule] : 0;
            return size > 0 && colour >= 0 ? colour % size : 0;
        }

        int turnFor(int rule, int colour) {
            return rule >= 0 && rule < ruleCount ? turns[rule * MAX_TURNS + remainder(rule, colour)] : 0;
        }

        boolean beginOrder(int kind) {
            if (orderCount >= MAX_ORDERS) {
                return false;
            }
            orderKinds[orderCount] = kind;
            orderFirsts[orderCount] = 0;
            orderSeconds[orderCount] = 0;
            testEnds[orderCount] = operationCount;
            orderCount++;
            return true;
        }

        void setOrderNumbers(int first, int second) {
            if (orderCount > 0) {
                orderFirsts[orderCount - 1] = first;
                orderSeconds[orderCount - 1] = second;
            }
        }

        /** Appends an operation to the test of the latest order. */
        void addOperation(int kind, int operand) {
            if (orderCount > 0 && operationCount < MAX_OPERATIONS) {
                operations[operationCount] = kind;
                operands[operationCount] = operand;
                operationCount++;
                testEnds[orderCount - 1] = operationCount;
            }
        }
    }

    /** Reads a list into a draft of the program and the yard, so that an error leaves the real ones alone. */
    private static final class Parser {
        static final int MAX_DEPTH = 8;

        final Tokens tokens;
        final Program draft;
        final Yard yard;
        final long[] ruleNames = new long[Program.MAX_RULES];
        final long[] antNames = new long[Yard.MAX_ANTS];
        int at;
        int error;
        int errorPlace;

        Parser(Tape tape, Yard yard) {
            tokens = new Tokens(tape);
            draft = new Program();
            this.yard = yard;
        }

        /** Answers 0 or the error; errorPlace is its position then. */
        int read() {
            tokens.scan();
            draft.clear();
            yard.clear();
            at = 0;
            error = 0;
            boolean fits = true;
            for (int lines = 0; lines < Tokens.MAX_TOKENS && fits && kind() != Kind.END; lines++) {
                switch (kind()) {
                    case Kind.RULE:
                        fits = ruleLine();
                        break;
                    case Kind.ANT:
                        fits = antLine();
                        break;
                    case Kind.PAINT:
                        fits = paintLine();
                        break;
                    case Kind.WASH:
                        fits = washLine();
                        break;
                    case Kind.FACE:
                        fits = faceLine();
                        break;
                    case Kind.HALT:
                    case Kind.WALK:
                        fits = haltLine();
                        break;
                    default:
                        fits = false;
                        break;
                }
                fits = fits && take(';');
            }
            if (!fits) {
                error = 0;
                complain(1);
            }
            return error;
        }

        private int kind() {
            return at >= 0 && at < tokens.kinds.length ? tokens.kinds[at] : Kind.BAD;
        }

        private long value() {
            return at >= 0 && at < tokens.values.length ? tokens.values[at] : 0;
        }

        private void advance() {
            if (at < tokens.size) {
                at++;
            }
        }

        private boolean take(int kind) {
            if (kind() != kind) {
                return false;
            }
            advance();
            return true;
        }

        /** Keeps the first of the errors 2 to 5; it counts only if no error 1 comes behind. */
        private void complain(int number) {
            if (error == 0) {
                error = number;
                errorPlace = at >= 0 && at < tokens.starts.length ? tokens.starts[at] : 0;
            }
        }

        private boolean ruleLine() {
            advance();
            if (kind() != Kind.NAME) {
                return false;
            }
            nameRule(value());
            advance();
            int turns = 0;
            while (turns < Tokens.MAX_TOKENS && kind() >= Kind.LEFT && kind() <= Kind.BACK) {
                if (!draft.addTurn(kind() - Kind.LEFT)) {
                    complain(4);
                }
                advance();
                turns++;
            }
            return turns >= 2;
        }

        private void nameRule(long name) {
            if (indexOf(name, ruleNames, draft.ruleCount) >= 0) {
                complain(2);
            }
            if (!draft.beginRule()) {
                complain(4);
            } else {
                ruleNames[draft.ruleCount - 1] = name;
            }
        }

        private static int indexOf(long name, long[] names, int size) {
            for (int i = 0; i < size && i < names.length; i++) {
                if (names[i] == name) {
                    return i;
                }
            }
            return -1;
        }

        private boolean antLine() {
            advance();
            if (kind() != Kind.NAME) {
                return false;
            }
            Ant ant = nameAnt(value());
            advance();
            if (!take(Kind.OF) || kind() != Kind.NAME) {
                return false;
            }
            ant.rule = knownName(ruleNames, draft.ruleCount);
            if (!take(Kind.AT) || kind() != Kind.NUMBER) {
                return false;
            }
            int column = rangedNumber(0, SIZE - 1);
            if (kind() != Kind.NUMBER) {
                return false;
            }
            ant.moveTo(column, rangedNumber(0, SIZE - 1));
            if (!take(Kind.FACES) || !isSide()) {
                return false;
            }
            ant.turnTo(takeSide());
            return true;
        }

        /** The new ant; where there is an error, the ant that takes the rest of the line is of no account. */
        private Ant nameAnt(long name) {
            if (indexOf(name, antNames, yard.antCount) >= 0) {
                complain(2);
            }
            if (!yard.beginAnt()) {
                complain(4);
            } else {
                antNames[yard.antCount - 1] = name;
            }
            return yard.latestAnt();
        }

        private boolean paintLine() {
            advance();
            if (kind() != Kind.NUMBER) {
                return false;
            }
            int column = rangedNumber(0, SIZE - 1);
            if (kind() != Kind.NUMBER) {
                return false;
            }
            int row = rangedNumber(0, SIZE - 1);
            if (kind() != Kind.NUMBER) {
                return false;
            }
            yard.setStone(row * SIZE + column, rangedNumber(0, COLOURS - 1));
            return true;
        }

        private boolean washLine() {
            takeOrderWord();
            if (kind() != Kind.NUMBER) {
                return false;
            }
            int from = rangedNumber(0, SIZE - 1);
            if (!take(Kind.TO) || kind() != Kind.NUMBER) {
                return false;
            }
            draft.setOrderNumbers(from, rangedNumber(from, SIZE - 1));
            return take(Kind.WHEN) && test(0);
        }

        private boolean faceLine() {
            takeOrderWord();
            if (kind() != Kind.NAME) {
                return false;
            }
            int ant = knownName(antNames, yard.antCount);
            if (!isSide()) {
                return false;
            }
            draft.setOrderNumbers(ant, takeSide());
            return take(Kind.WHEN) && test(0);
        }

        private boolean haltLine() {
            takeOrderWord();
            if (kind() != Kind.NAME) {
                return false;
            }
            draft.setOrderNumbers(knownName(antNames, yard.antCount), 0);
            return take(Kind.WHEN) && test(0);
        }

        private void takeOrderWord() {
            if (!draft.beginOrder(kind())) {
                complain(4);
            }
            advance();
        }

        /** Takes a name told ahead and answers its number; 0 stands in for an unknown one. */
        private int knownName(long[] names, int size) {
            int index = indexOf(value(), names, size);
            if (index < 0) {
                complain(3);
            }
            advance();
            return index < 0 ? 0 : index;
        }

        /** Takes a number; the least one stands in for one out of range. */
        private int rangedNumber(int least, int greatest) {
            int number = (int) value();
            if (number < least || number > greatest) {
                complain(5);
                number = least;
            }
            advance();
            return number;
        }

        private boolean isSide() {
            return kind() >= Kind.NORTH && kind() <= Kind.WEST;
        }

        private int takeSide() {
            int side = kind() - Kind.NORTH;
            advance();
            return side;
        }

        private boolean test(int depth) {
            boolean fits = both(depth);
            for (int i = 0; i < Tokens.MAX_TOKENS && fits && take(Kind.OR); i++) {
                fits = both(depth);
                draft.addOperation(Kind.OR, 0);
            }
            return fits;
        }

        private boolean both(int depth) {
            boolean fits = single(depth);
            for (int i = 0; i < Tokens.MAX_TOKENS && fits && take(Kind.AND); i++) {
                fits = single(depth);
                draft.addOperation(Kind.AND, 0);
            }
            return fits;
        }

        private boolean single(int depth) {
            switch (kind()) {
                case Kind.NOT:
                    return negatedSingle(depth);
                case '[':
                    return bracket(depth);
                case Kind.MEETS:
                case Kind.HALTED:
                    return antOperation();
                default:
                    break;
            }
            if (!sum(depth) || !isComparison(kind())) {
                return false;
            }
            int operation = kind();
            advance();
            boolean fits = sum(depth);
            draft.addOperation(operation, 0);
            return fits;
        }

        private static boolean isComparison(int kind) {
            return kind == '<' || kind == '>' || kind == '=' || kind == Kind.AT_MOST || kind == Kind.AT_LEAST;
        }

        private boolean negatedSingle(int depth) {
            if (depth >= MAX_DEPTH) {
                return false;
            }
            advance();
            boolean fits = single(depth + 1);
            draft.addOperation(Kind.NOT, 0);
            return fits;
        }

        private boolean bracket(int depth) {
            if (depth >= MAX_DEPTH) {
                return false;
            }
            advance();
            return test(depth + 1) && take(']');
        }

        private boolean antOperation() {
            int operation = kind();
            advance();
            if (kind() != Kind.NAME) {
                return false;
            }
            draft.addOperation(operation, knownName(antNames, yard.antCount));
            return true;
        }

        private boolean sum(int depth) {
            boolean fits = product(depth);
            for (int i = 0; i < Tokens.MAX_TOKENS && fits && (kind() == '+' || kind() == '-'); i++) {
                int operation = kind();
                advance();
                fits = product(depth);
                draft.addOperation(operation, 0);
            }
            return fits;
        }

        private boolean product(int depth) {
            boolean fits = factor(depth);
            for (int i = 0; i < Tokens.MAX_TOKENS && fits && (kind() == '*' || kind() == '/'); i++) {
                int operation = kind();
                advance();
                fits = factor(depth);
                draft.addOperation(operation, 0);
            }
            return fits;
        }

        private boolean factor(int depth) {
            switch (kind()) {
                case Kind.NUMBER:
                case Kind.STEP:
                case Kind.DARK:
                    draft.addOperation(kind(), (int) value());
                    advance();
                    return true;
                case Kind.ACROSS:
                case Kind.DOWN:
                case Kind.PERIOD:
                    return antOperation();
                case Kind.ROW:
                    advance();
                    return group(depth, Kind.ROW);
                case '-':
                    return negatedFactor(depth);
                case '(':
                    return group(depth, '(');
                case Kind.MIN:
                case Kind.MAX:
                    return choice(depth);
                default:
                    return false;
            }
        }

        private boolean negatedFactor(int depth) {
            if (depth >= MAX_DEPTH) {
                return false;
            }
            advance();
            boolean fits = factor(depth + 1);
            draft.addOperation(Kind.NEGATE, 0);
            return fits;
        }

        /** A sum in parentheses, alone or behind row. */
        private boolean group(int depth, int operation) {
            if (depth >= MAX_DEPTH || !take('(') || !sum(depth + 1) || !take(')')) {
                return false;
            }
            if (operation == Kind.ROW) {
                draft.addOperation(operation, 0);
            }
            return true;
        }

        private boolean choice(int depth) {
            int operation = kind();
            advance();
            if (depth >= MAX_DEPTH || !take('(') || !sum(depth + 1) || !take(',') || !sum(depth + 1) || !take(')')) {
                return false;
            }
            draft.addOperation(operation, 0);
            return true;
        }
    }

    /** An ant with the latest sides of its path, kept in a ring. */
    private static final class Ant {
        static final int MAX_PERIOD = 120;
        static final int RING = 512;
        static final int[] EAST = {0, 1, 0, -1};
        static final int[] SOUTH = {-1, 0, 1, 0};
        static final int[] TURN_BY = {3, 1, 0, 2};
        static final int UNKNOWN = -1;

        int rule;
        int column;
        int row;
        int side;
        boolean walks;
        int steps;
        int pathLength;
        int knownPeriod;
        final int[] path = new int[RING];

        void clear() {
            rule = 0;
            column = 0;
            row = 0;
            side = 0;
            walks = true;
            steps = 0;
            beginPath();
        }

        void copyFrom(Ant other) {
            rule = other.rule;
            column = other.column;
            row = other.row;
            side = other.side;
            walks = other.walks;
            steps = other.steps;
            pathLength = other.pathLength;
            knownPeriod = other.knownPeriod;
            System.arraycopy(other.path, 0, path, 0, RING);
        }

        private void beginPath() {
            pathLength = 0;
            knownPeriod = 0;
        }

        int stoneUnder() {
            return row * SIZE + column;
        }

        void moveTo(int toColumn, int toRow) {
            column = toColumn;
            row = toRow;
            beginPath();
        }

        void turnTo(int toSide) {
            side = toSide;
            beginPath();
        }

        /** Turns by 0 left, 1 right, 2 straight or 3 back, and goes to the next stone. */
        void go(int turn) {
            side = (side + TURN_BY[turn & 3]) & 3;
            column = (column + EAST[side]) & (SIZE - 1);
            row = (row + SOUTH[side]) & (SIZE - 1);
            path[pathLength & (RING - 1)] = side;
            pathLength++;
            steps++;
            knownPeriod = UNKNOWN;
        }

        /** The least period is kept until the path grows, since many tests may ask for it in one step. */
        int period() {
            if (knownPeriod != UNKNOWN) {
                return knownPeriod;
            }
            knownPeriod = 0;
            int east = 0;
            int south = 0;
            for (int p = 1; p <= MAX_PERIOD && 3 * p <= pathLength && knownPeriod == 0; p++) {
                int oldest = sideOfStep(p);
                east += EAST[oldest];
                south += SOUTH[oldest];
                if ((east != 0 || south != 0) && repeats(p)) {
                    knownPeriod = p;
                }
            }
            return knownPeriod;
        }

        /** The side of the latest step for 1, of the one ahead of it for 2, and so on. */
        private int sideOfStep(int back) {
            return path[(pathLength - back) & (RING - 1)] & 3;
        }

        private boolean repeats(int p) {
            int shift = pathLength - p;
            for (int back = 1; back <= 2 * p; back++) {
                if (path[(pathLength - back) & (RING - 1)] != path[(shift - back) & (RING - 1)]) {
                    return false;
                }
            }
            return true;
        }

        private int eastOfPeriod() {
            int east = 0;
            for (int back = period(); back > 0; back--) {
                east += EAST[sideOfStep(back)];
            }
            return east;
        }

        private int southOfPeriod() {
            int south = 0;
            for (int back = period(); back > 0; back--) {
                south += SOUTH[sideOfStep(back)];
            }
            return south;
        }

        int answer(int what) {
            switch (what) {
                case 0: return rule;
                case 1: return column;
                case 2: return row;
                case 3: return side;
                case 4: return walks ? 1 : 0;
                case 5: return steps;
                case 6: return period();
                case 7: return eastOfPeriod();
                case 8: return southOfPeriod();
                default: return 0;
            }
        }
    }

    /** The stones and the ants, and what has been counted since they were told. */
    private static final class Yard {
        static final int MAX_ANTS = 6;

        final int[] stones = new int[STONES];
        final int[] rowDark = new int[SIZE];
        final int[] colours = new int[COLOURS];
        final Ant[] ants = new Ant[MAX_ANTS];
        int antCount;
        int steps;
        int meetings;
        int washed;
        int carriedOut;

        Yard() {
            for (int i = 0; i < MAX_ANTS; i++) {
                ants[i] = new Ant();
            }
            colours[0] = STONES;
        }

        void clear() {
            for (int i = 0; i < STONES; i++) {
                stones[i] = 0;
            }
            for (int i = 0; i < SIZE; i++) {
                rowDark[i] = 0;
            }
            for (int i = 1; i < COLOURS; i++) {
                colours[i] = 0;
            }
            colours[0] = STONES;
            antCount = 0;
            steps = 0;
            meetings = 0;
            washed = 0;
            carriedOut = 0;
        }

        void copyFrom(Yard other) {
            System.arraycopy(other.stones, 0, stones, 0, STONES);
            System.arraycopy(other.rowDark, 0, rowDark, 0, SIZE);
            System.arraycopy(other.colours, 0, colours, 0, COLOURS);
            antCount = other.antCount;
            for (int i = 0; i < antCount && i < MAX_ANTS; i++) {
                ants[i].copyFrom(other.ants[i]);
            }
            steps = other.steps;
            meetings = other.meetings;
            washed = other.washed;
            carriedOut = other.carriedOut;
        }

        boolean beginAnt() {
            if (antCount >= MAX_ANTS) {
                return false;
            }
            ants[antCount].clear();
            antCount++;
            return true;
        }

        Ant latestAnt() {
            return ants[antCount > 0 ? antCount - 1 : 0];
        }

        int colourAt(int place) {
            return place >= 0 && place < STONES ? stones[place] : 0;
        }

        void setStone(int place, int colour) {
            int before = colourAt(place);
            if (place < 0 || place >= STONES || !isColour(colour) || !isColour(before)) {
                return;
            }
            int row = place / SIZE;
            stones[place] = colour;
            colours[before]--;
            colours[colour]++;
            rowDark[row] += (colour != 0 ? 1 : 0) - (before != 0 ? 1 : 0);
        }

        /** Answers how many stones were dark. */
        int washRows(int from, int to) {
            int before = darkStones();
            for (int row = Math.max(from, 0); row <= to && row < SIZE; row++) {
                if (rowDark[row] > 0) {
                    washRow(row);
                }
            }
            int cleaned = before - darkStones();
            washed += cleaned;
            return cleaned;
        }

        private void washRow(int row) {
            for (int column = 0; column < SIZE; column++) {
                setStone(row * SIZE + column, 0);
            }
        }

        int darkStones() {
            return STONES - colours[0];
        }

        int darkInRow(int row) {
            return row >= 0 && row < SIZE ? rowDark[row] : 0;
        }

        int colourSum() {
            int sum = 0;
            for (int i = 0; i < COLOURS; i++) {
                sum += i * colours[i];
            }
            return sum;
        }

        private int walkingAnts() {
            int walking = 0;
            for (int i = 0; i < antCount && i < MAX_ANTS; i++) {
                walking += ants[i].walks ? 1 : 0;
            }
            return walking;
        }

        /** What count() tells for 4 to 9. */
        int total(int what) {
            switch (what) {
                case 4: return darkStones();
                case 5: return colourSum();
                case 6: return walkingAnts();
                case 7: return meetings;
                case 8: return washed;
                case 9: return carriedOut;
                default: return 0;
            }
        }

        boolean hasHighway() {
            for (int i = 0; i < antCount && i < MAX_ANTS; i++) {
                if (ants[i].period() > 0) {
                    return true;
                }
            }
            return false;
        }

        boolean hasAnt(int ant) {
            return ant >= 0 && ant < antCount && ant < MAX_ANTS;
        }

        boolean meetsAnother(int ant) {
            for (int i = 0; i < antCount && i < MAX_ANTS; i++) {
                if (i != ant && ants[i].stoneUnder() == ants[ant].stoneUnder()) {
                    return true;
                }
            }
            return false;
        }

        void countMeetings() {
            for (int i = 0; i < antCount && i < MAX_ANTS; i++) {
                for (int j = 0; j < i; j++) {
                    meetings += ants[i].stoneUnder() == ants[j].stoneUnder() ? 1 : 0;
                }
            }
        }
    }

    /** Makes the steps of a yard by the program. */
    private static final class Stepper {
        final Program program;
        final Reckoner reckoner = new Reckoner();

        Stepper(Program program) {
            this.program = program;
        }

        void makeSteps(Yard yard, int steps) {
            for (int i = 0; i < steps; i++) {
                makeStep(yard);
            }
        }

        void makeStep(Yard yard) {
            for (int order = 0; order < program.orderCount && order < Program.MAX_ORDERS; order++) {
                if (reckoner.holds(program, order, yard) && carryOut(order, yard)) {
                    yard.carriedOut++;
                }
            }
            for (int i = 0; i < yard.antCount && i < Yard.MAX_ANTS; i++) {
                if (yard.ants[i].walks) {
                    moveAnt(yard.ants[i], yard);
                }
            }
            yard.countMeetings();
            yard.steps++;
        }

        private void moveAnt(Ant ant, Yard yard) {
            int place = ant.stoneUnder();
            int colour = yard.colourAt(place);
            int turn = program.turnFor(ant.rule, colour);
            yard.setStone(place, program.remainder(ant.rule, colour + 1));
            ant.go(turn);
        }

        /** Answers whether the order changed anything. */
        private boolean carryOut(int order, Yard yard) {
            int first = program.orderFirsts[order];
            int second = program.orderSeconds[order];
            int kind = program.orderKinds[order];
            if (kind == Kind.WASH) {
                return yard.washRows(first, second) > 0;
            }
            if (!yard.hasAnt(first)) {
                return false;
            }
            Ant ant = yard.ants[first];
            if (kind == Kind.FACE) {
                return faceOther(ant, second);
            }
            boolean walks = kind == Kind.WALK;
            boolean changes = ant.walks != walks;
            ant.walks = walks;
            return changes;
        }

        private static boolean faceOther(Ant ant, int side) {
            if (ant.side == side) {
                return false;
            }
            ant.turnTo(side);
            return true;
        }
    }

    /** Reckons tests; a test counts 1 if it holds, else 0. */
    private static final class Reckoner {
        /** Each of the nine depths leaves at most six operands waiting. */
        static final int MAX_WAITING = 64;

        final int[] waiting = new int[MAX_WAITING];
        int size;

        boolean holds(Program program, int order, Yard yard) {
            size = 0;
            int from = order > 0 ? program.testEnds[order - 1] : 0;
            int to = program.testEnds[order];
            for (int i = from; i < to && i < Program.MAX_OPERATIONS; i++) {
                reckon(program.operations[i], program.operands[i], yard);
            }
            return pop() != 0;
        }

        private void push(int value) {
            if (size < MAX_WAITING) {
                waiting[size] = value;
                size++;
            }
        }

        private int pop() {
            if (size <= 0) {
                return 0;
            }
            size--;
            return waiting[size];
        }

        private void reckon(int kind, int operand, Yard yard) {
            switch (kind) {
                case Kind.NUMBER:
                    push(operand);
                    break;
                case Kind.STEP:
                    push(yard.steps);
                    break;
                case Kind.DARK:
                    push(yard.darkStones());
                    break;
                case Kind.ROW:
                    push(yard.darkInRow(pop()));
                    break;
                case Kind.NEGATE:
                    push(-pop());
                    break;
                case Kind.NOT:
                    push(pop() == 0 ? 1 : 0);
                    break;
                case Kind.ACROSS:
                case Kind.DOWN:
                case Kind.PERIOD:
                case Kind.MEETS:
                case Kind.HALTED:
                    push(yard.hasAnt(operand) ? ofAnt(kind, operand, yard) : 0);
                    break;
                default:
                    int right = pop();
                    int left = pop();
                    push(ofTwo(kind, left, right));
                    break;
            }
        }

        private static int ofAnt(int kind, int ant, Yard yard) {
            switch (kind) {
                case Kind.ACROSS: return yard.ants[ant].column;
                case Kind.DOWN: return yard.ants[ant].row;
                case Kind.PERIOD: return yard.ants[ant].period();
                case Kind.MEETS: return yard.meetsAnother(ant) ? 1 : 0;
                case Kind.HALTED: return yard.ants[ant].walks ? 0 : 1;
                default: return 0;
            }
        }

        private static int ofTwo(int kind, int left, int right) {
            switch (kind) {
                case '+': return left + right;
                case '-': return left - right;
                case '*': return left * right;
                case '/': return right == 0 ? 0 : left / right;
                case '<': return left < right ? 1 : 0;
                case '>': return left > right ? 1 : 0;
                case '=': return left == right ? 1 : 0;
                case Kind.AT_MOST: return left <= right ? 1 : 0;
                case Kind.AT_LEAST: return left >= right ? 1 : 0;
                case Kind.MIN: return Math.min(left, right);
                case Kind.MAX: return Math.max(left, right);
                case Kind.AND: return left & right;
                case Kind.OR: return left | right;
                default: return 0;
            }
        }
    }
}
