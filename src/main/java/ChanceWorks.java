import java.util.Arrays;

/**
 * A house of chance: programs that draw, observe, gain and choose are read from a tape,
 * explored state by state, solved in exact fractions, planned for and played.
 */
public final class ChanceWorks {
    public static final int NONE = -1;

    private static final int MOST_BYTES = 65536;
    private static final int MOST_STATES = 1000;
    private static final int MOST_ENDINGS = 1000;
    private static final int MOST_NEXTS = 20000;
    private static final int MOST_STATEMENTS = 150;
    private static final int MOST_VARS = 10;
    private static final int MOST_ARRAYS = 3;
    private static final int MOST_CELLS = 8;
    private static final int MOST_FUNCTIONS = 10;
    private static final int MOST_NAMES = 4;
    private static final int MOST_OWN = 8;
    private static final int MOST_PAIRS = 8;
    private static final int MOST_BRACKETS = 40;
    private static final int MOST_CALLS = 12;
    private static final int MOST_RING = 32;
    private static final int MOST_BITS = 256;
    private static final int MOST_TOLD = 200;
    private static final int MOST_PLAYED = 2000;
    private static final int MOST_SHARED = MOST_VARS + MOST_ARRAYS * MOST_CELLS;

    /** What comes of a statement, and what a next is. */
    private static final int RUNS = 0;
    private static final int ENDS = 1;
    private static final int FAILS = 2;
    private static final int CUTS = 3;

    private static final int NO_PLACE = 1;
    private static final int BY_ZERO = 2;
    private static final int BAD_DRAW = 3;
    private static final int TOO_DEEP = 4;
    private static final int BAD_CHOICE = 5;
    private static final int BAD_TOLD = 6;

    /** Kinds of statements. */
    private static final int SET = 0;
    private static final int PICK = 1;
    private static final int FLIP = 2;
    private static final int SPREAD = 3;
    private static final int CHOOSE = 4;
    private static final int CALL = 5;
    private static final int IF = 6;
    private static final int WHILE = 7;
    private static final int RETURN = 8;
    private static final int OBSERVE = 9;
    private static final int GAIN = 10;

    /** Where a statement puts its number. */
    private static final int NOWHERE = 0;
    private static final int SHARED = 1;
    private static final int OWN = 2;
    private static final int CELL = 3;

    /** What is kept of a statement: the columns of its row. */
    private static final int KIND = 0;
    private static final int SORT = 1;
    private static final int INDEX = 2;
    private static final int CODE = 3;
    private static final int EXPS = 4;
    private static final int CALLEE = 5;
    private static final int BODY = 6;
    private static final int OTHER = 7;
    private static final int FOLLOW = 8;
    private static final int PARENT = 9;
    private static final int FUNCTION = 10;
    private static final int COLUMNS = 11;

    /** What the code of expressions does, in the order of their work. */
    private static final int OP_STOP = 0;
    private static final int OP_NUMBER = 1;
    private static final int OP_SHARED = 2;
    private static final int OP_OWN = 3;
    private static final int OP_CELL = 4;
    private static final int OP_MINUS = 5;
    private static final int OP_NOT = 6;
    private static final int OP_OR = 7;
    private static final int OP_AND = 8;
    private static final int OP_SAME = 9;
    private static final int OP_OTHER = 10;
    private static final int OP_BELOW = 11;
    private static final int OP_MOST = 12;
    private static final int OP_ABOVE = 13;
    private static final int OP_LEAST = 14;
    private static final int OP_ADD = 15;
    private static final int OP_TAKE = 16;
    private static final int OP_TIMES = 17;
    private static final int OP_OVER = 18;
    private static final int OP_REST = 19;
    /** Brackets that wait among the operators; behind the second one come the arrays. */
    private static final int OPEN_ROUND = 100;
    private static final int OPEN_SQUARE = 101;

    /** Kinds of tokens; a sign of one byte is its own kind. */
    private static final int SIGN_SAME = 128;
    private static final int SIGN_OTHER = 129;
    private static final int SIGN_MOST = 130;
    private static final int SIGN_LEAST = 131;
    private static final int NAME = 140;
    private static final int NUMBER = 141;
    private static final int END = 142;
    private static final int BAD = 143;
    private static final int WORD_VAR = 150;
    private static final int WORD_ARR = 151;
    private static final int WORD_FUNC = 152;
    private static final int WORD_LOCAL = 153;
    private static final int WORD_IF = 154;
    private static final int WORD_ELSE = 155;
    private static final int WORD_WHILE = 156;
    private static final int WORD_RETURN = 157;
    private static final int WORD_OBSERVE = 158;
    private static final int WORD_GAIN = 159;
    private static final int WORD_PICK = 160;
    private static final int WORD_FLIP = 161;
    private static final int WORD_CHOOSE = 162;
    private static final String WORDS = "var arr func local if else while return observe gain pick flip choose ";
    private static final String SIGNS = "(){}[];,:~=<>+-*/%&|!";

    private final Tape tape;
    private final Parser parser;
    private Code code;
    private Code spare;
    private boolean ready;
    private int faultCode;
    private final Machine machine;
    private final Atlas atlas;
    private final Solver solver;
    private final Odds odds;
    private final Ratio shown;
    private final int[] told;
    private int tolds;
    private boolean playMade;
    /** Of the latest play, in the order of played(): how, number, statements, draws, gained. */
    private final long[] record;
    private final int[] lastShared;
    private int[] drawnWeights;
    private int[] drawnTotals;

    public ChanceWorks() {
        tape = new Tape();
        code = new Code();
        spare = new Code();
        parser = new Parser(tape, spare);
        machine = new Machine(code);
        atlas = new Atlas(machine, code);
        Calc calc = new Calc();
        solver = new Solver(atlas, calc);
        odds = new Odds(atlas, solver, calc);
        shown = new Ratio(2);
        told = new int[MOST_TOLD];
        record = new long[5];
        lastShared = new int[MOST_SHARED];
        drawnWeights = new int[16];
        drawnTotals = new int[16];
    }

    public int feed(int a, int b, int c, int d, int e) throws UnsupportedOperationException {
        if (tape.length + 20 > MOST_BYTES) {
            throw new UnsupportedOperationException("the tape is full");
        }
        tape.widen(tape.length + 20);
        tape.addWord(a);
        tape.addWord(b);
        tape.addWord(c);
        tape.addWord(d);
        tape.addWord(e);
        return tape.length;
    }

    public void end(int n) throws IllegalArgumentException {
        if (n < 0 || n > tape.length) {
            throw new IllegalArgumentException("the tape has not so many bytes");
        }
        tape.length = n;
    }

    public int program() {
        boolean sound = true;
        try {
            parser.read(spare);
        } catch (IllegalStateException refused) {
            sound = false;
        }
        tape.length = 0;
        faultCode = sound ? 0 : parser.faultCode;
        if (!sound) {
            return -1 - parser.faultPlace;
        }
        Code old = code;
        code = spare;
        spare = old;
        ready = true;
        atlas.explored = false;
        solver.solved = false;
        solver.planned = false;
        playMade = false;
        return code.statements;
    }

    public int fault() {
        return faultCode;
    }

    public int count(int what) throws IndexOutOfBoundsException {
        if (what < 0 || what > 11) {
            throw new IndexOutOfBoundsException("no such count");
        }
        if (what == 11) {
            return tape.length;
        }
        if (what < 4) {
            return ready ? code.howMany(what) : 0;
        }
        return atlas.explored ? atlas.howMany(what) : 0;
    }

    public int explore(int most) throws IllegalStateException, IllegalArgumentException {
        if (!ready) {
            throw new IllegalStateException("there is no program");
        }
        if (most < 1 || most > MOST_STATES) {
            throw new IllegalArgumentException("most is not 1 .. 1000");
        }
        solver.solved = false;
        solver.planned = false;
        return atlas.discover(code, most);
    }

    public int state(int k, int what) throws IndexOutOfBoundsException {
        if (!atlas.holds(k) || what < 0 || what > 5) {
            throw new IndexOutOfBoundsException("no such state or question");
        }
        switch (what) {
            case 0:
                return atlas.statementOf(k, atlas.callsOf(k) - 1);
            case 1:
                return atlas.callsOf(k);
            case 2:
                return atlas.waysOf(k);
            case 3:
                return atlas.chooses[k] ? 1 : 0;
            case 4:
                return atlas.hopeless[k] ? 1 : 0;
            default:
                return atlas.totals[k];
        }
    }

    public int value(int k, int c, int i) throws IndexOutOfBoundsException {
        if (!atlas.holds(k) || !atlas.hasVariable(k, c, i)) {
            throw new IndexOutOfBoundsException("no such state, call or variable");
        }
        return atlas.variableOf(k, c, i);
    }

    public int next(int k, int i, int what) throws IndexOutOfBoundsException {
        if (!atlas.holds(k) || i < 0 || i >= atlas.waysOf(k) || what < 0 || what > 2) {
            throw new IndexOutOfBoundsException("no such state, next or question");
        }
        int at = atlas.firsts[k] + i;
        if (what == 0) {
            return atlas.sorts[at];
        }
        return what == 1 ? atlas.numbers[at] : atlas.weights[at];
    }

    public int ending(int k, int i) throws IndexOutOfBoundsException {
        if (!atlas.holdsEnding(k) || i < NONE || i >= code.shared()) {
            throw new IndexOutOfBoundsException("no such ending or variable");
        }
        return atlas.endings.part(k, i == NONE ? code.shared() : i);
    }

    public int decide(int k, int c) throws IndexOutOfBoundsException {
        if (!atlas.holds(k) || !atlas.chooses[k] || c < 0 || c >= atlas.waysOf(k)) {
            throw new IndexOutOfBoundsException("no such state that chooses, or next");
        }
        int before = atlas.plan[k];
        atlas.plan[k] = c;
        solver.solved = false;
        return before;
    }

    public int decided(int k) throws IndexOutOfBoundsException {
        if (!atlas.holds(k) || !atlas.chooses[k]) {
            throw new IndexOutOfBoundsException("no such state that chooses");
        }
        return atlas.plan[k];
    }

    public int best() throws IllegalStateException {
        if (!atlas.explored) {
            throw new IllegalStateException("nothing is explored");
        }
        return solver.makePlan();
    }

    public int solve() throws IllegalStateException {
        if (!atlas.explored) {
            throw new IllegalStateException("nothing is explored");
        }
        return solver.findVisits();
    }

    public int show(int kind, int v)
            throws IllegalArgumentException, IllegalStateException, IndexOutOfBoundsException {
        if (kind < 0 || kind > 12) {
            throw new IllegalArgumentException("no such kind");
        }
        if (!showsNow(kind)) {
            throw new IllegalStateException("there is no such fraction now");
        }
        if (kind == 2 && !atlas.holdsEnding(v) || (kind == 8 || kind == 11) && !atlas.holds(v)) {
            throw new IndexOutOfBoundsException("no such ending or state");
        }
        if (kind == 12) {
            showPlay();
        } else if (kind == 11) {
            shown.copy(solver.worths[v]);
        } else if (kind >= 7 && kind <= 9) {
            solver.showVisits(kind, v, shown);
        } else {
            odds.showWeight(kind, v, shown);
        }
        return shown.sign;
    }

    public int size(int part) throws IndexOutOfBoundsException {
        if (part < 0 || part > 1) {
            throw new IndexOutOfBoundsException("no such part");
        }
        return part == 0 ? shown.top.words() : shown.bottom.words();
    }

    public int limb(int part, int i) throws IndexOutOfBoundsException {
        if (part < 0 || part > 1) {
            throw new IndexOutOfBoundsException("no such part");
        }
        Num number = part == 0 ? shown.top : shown.bottom;
        if (i < 0 || i >= number.words()) {
            throw new IndexOutOfBoundsException("no such number");
        }
        return number.word(i);
    }

    public int tell(int draw) throws UnsupportedOperationException {
        if (tolds >= MOST_TOLD) {
            throw new UnsupportedOperationException("200 draws are told");
        }
        told[tolds] = draw;
        tolds++;
        return tolds;
    }

    public int forget() {
        int before = tolds;
        tolds = 0;
        return before;
    }

    public int play(long seed, int most) throws IllegalStateException, IllegalArgumentException {
        if (!ready) {
            throw new IllegalStateException("there is no program");
        }
        if (most < 0 || most > MOST_PLAYED) {
            throw new IllegalArgumentException("most is not 0 .. 2000");
        }
        return perform(false, seed, most);
    }

    public int walk(int most) throws IllegalStateException, IllegalArgumentException {
        if (!ready) {
            throw new IllegalStateException("there is no program");
        }
        if (most < 0 || most > MOST_PLAYED) {
            throw new IllegalArgumentException("most is not 0 .. 2000");
        }
        return perform(true, 0L, most);
    }

    public long played(int what) throws IndexOutOfBoundsException {
        int shared = ready ? code.shared() : 0;
        if (what < 0 || what >= 5 + shared) {
            throw new IndexOutOfBoundsException("no such question");
        }
        if (!playMade) {
            return 0L;
        }
        return what < 5 ? record[what] : lastShared[what - 5];
    }

    public boolean independent(int i, int j) throws IllegalStateException, IndexOutOfBoundsException {
        if (!solver.solved) {
            throw new IllegalStateException("nothing is solved");
        }
        if (!code.isShared(i) || !code.isShared(j)) {
            throw new IndexOutOfBoundsException("no such variable");
        }
        return odds.arrange(i, j, NONE) && odds.tablesAgree();
    }

    public boolean given(int i, int j, int third) throws IllegalStateException, IndexOutOfBoundsException {
        if (!solver.solved) {
            throw new IllegalStateException("nothing is solved");
        }
        if (!code.isShared(i) || !code.isShared(j) || !code.isShared(third)) {
            throw new IndexOutOfBoundsException("no such variable");
        }
        return odds.arrange(i, j, third) && odds.tablesAgree();
    }

    private boolean showsNow(int kind) {
        if (kind == 12) {
            return playMade;
        }
        if (kind == 11) {
            return solver.planned;
        }
        if (!solver.solved) {
            return false;
        }
        if (kind <= 1) {
            return odds.weighs(Odds.KEPT);
        }
        return kind != 10 || odds.weighs(Odds.ENDED);
    }

    private void showPlay() {
        shown.putOne();
        long draws = record[3];
        for (int n = 0; n < draws && n < drawnWeights.length && n < drawnTotals.length; n++) {
            shown.scale(drawnWeights[n], drawnTotals[n]);
        }
    }

    private int perform(boolean byTold, long seed, int most) {
        machine.begin(code);
        long x = seed;
        int done = 0;
        int draws = 0;
        long gained = 0L;
        for (int n = 0; n < most && machine.outcome == RUNS; n++) {
            machine.act();
            if (machine.wants == CHOOSE) {
                machine.settle(atlas.chosen(machine));
            } else if (machine.wants == SPREAD) {
                if (byTold && draws >= tolds) {
                    break;
                }
                x = x * 6364136223846793005L + 1442695040888963407L;
                draws += drawn(byTold ? told[draws] : machine.wayAt(x >>> 33), draws);
            }
            done++;
            gained += machine.gained;
        }
        note(done, draws, gained);
        return machine.outcome;
    }

    /** One draw of a play, kept for its odds: how many were drawn, 0 if there is no such way. */
    private int drawn(int way, int draws) {
        if (way < 0 || way >= machine.ways) {
            machine.fail(BAD_TOLD);
            return 0;
        }
        if (draws >= drawnWeights.length) {
            drawnWeights = Arrays.copyOf(drawnWeights, draws * 2);
            drawnTotals = Arrays.copyOf(drawnTotals, draws * 2);
        }
        drawnWeights[draws] = machine.weights[way];
        drawnTotals[draws] = machine.total;
        machine.settle(way);
        return 1;
    }

    private void note(int done, int draws, long gained) {
        int how = machine.outcome;
        record[0] = how;
        record[1] = how == ENDS ? machine.number : how == FAILS ? machine.failure : 0;
        record[2] = done;
        record[3] = draws;
        record[4] = gained;
        System.arraycopy(machine.memory, 0, lastShared, 0, Math.min(code.shared(), MOST_SHARED));
        playMade = true;
    }

    private static int commonInt(int a, int b) {
        int x = a;
        int y = b;
        for (int n = 0; n < 100 && y != 0; n++) {
            int rest = x % y;
            x = y;
            y = rest;
        }
        // It is divided by, so it is never 0.
        return Math.max(x, 1);
    }

    private static long commonLong(long a, long b) {
        long x = a;
        long y = b;
        for (int n = 0; n < 200 && y != 0; n++) {
            long rest = x % y;
            x = y;
            y = rest;
        }
        return x;
    }

    /** The bytes that were fed, and their tokens up to the first byte that begins none. */
    private static final class Tape {
        byte[] bytes;
        int length;
        int[] kinds;
        int[] places;
        int[] lengths;
        int total;

        Tape() {
            bytes = new byte[240];
            kinds = new int[64];
            places = new int[64];
            lengths = new int[64];
        }

        void widen(int room) {
            if (room > bytes.length) {
                bytes = Arrays.copyOf(bytes, room * 2);
            }
        }

        void addWord(int word) {
            for (int shift = 24; shift >= 0 && length < bytes.length; shift -= 8) {
                bytes[length] = (byte) (word >> shift);
                length++;
            }
        }

        private int byteAt(int place) {
            return place >= 0 && place < length && place < bytes.length ? bytes[place] & 255 : NONE;
        }

        void split() {
            total = 0;
            int at = 0;
            for (int n = 0; n <= length; n++) {
                at = skipBlanks(at);
                int size = at < length ? sizeAt(at) : 0;
                int kind = at < length ? kindOf(at, size) : END;
                addToken(kind, at, size);
                if (kind == END || kind == BAD) {
                    return;
                }
                at += size;
            }
        }

        private void addToken(int kind, int place, int size) {
            if (total >= kinds.length) {
                kinds = Arrays.copyOf(kinds, total * 2);
                places = Arrays.copyOf(places, total * 2);
                lengths = Arrays.copyOf(lengths, total * 2);
            }
            kinds[total] = kind;
            places[total] = place;
            lengths[total] = size;
            total++;
        }

        private int skipBlanks(int from) {
            boolean comment = false;
            for (int at = from; at < length; at++) {
                int b = byteAt(at);
                if (b == 10) {
                    comment = false;
                } else if (b == '#') {
                    comment = true;
                } else if (!comment && b != 9 && b != 13 && b != 32) {
                    return at;
                }
            }
            return length;
        }

        private static boolean isDigit(int b) {
            return b >= '0' && b <= '9';
        }

        private static boolean isLetter(int b) {
            return b >= 'a' && b <= 'z' || b >= 'A' && b <= 'Z' || b == '_';
        }

        private int sizeAt(int place) {
            int first = byteAt(place);
            boolean name = isLetter(first);
            if (!name && !isDigit(first)) {
                boolean pair = first == '=' || first == '!' || first == '<' || first == '>';
                return pair && byteAt(place + 1) == '=' ? 2 : 1;
            }
            int at = place + 1;
            while (at < length && (isDigit(byteAt(at)) || name && isLetter(byteAt(at)))) {
                at++;
            }
            return at - place;
        }

        private int kindOf(int place, int size) {
            int first = byteAt(place);
            if (isLetter(first)) {
                return size > 12 ? BAD : wordOf(place, size);
            }
            if (isDigit(first)) {
                return size > 9 ? BAD : NUMBER;
            }
            if (size == 2) {
                return first == '=' ? SIGN_SAME : first == '!' ? SIGN_OTHER : first == '<' ? SIGN_MOST : SIGN_LEAST;
            }
            return SIGNS.indexOf((char) first) >= 0 ? first : BAD;
        }

        private int wordOf(int place, int size) {
            int word = WORD_VAR;
            int from = 0;
            for (int i = 0; i < WORDS.length() && size < 8; i++) {
                if (WORDS.charAt(i) == ' ') {
                    if (i - from == size && reads(place, size, WORDS, from)) {
                        return word;
                    }
                    word++;
                    from = i + 1;
                }
            }
            return NAME;
        }

        /** Whether the bytes of a place are those that the text has from a place on. */
        private boolean reads(int place, int size, String text, int from) {
            for (int i = 0; i < size; i++) {
                if (from + i >= text.length() || byteAt(place + i) != text.charAt(from + i)) {
                    return false;
                }
            }
            return true;
        }

        boolean isMain(int token) {
            return token >= 0 && token < total && lengths[token] == 4 && reads(places[token], 4, "main", 0);
        }

        int numberAt(int token) {
            int number = 0;
            for (int i = 0; token >= 0 && token < total && i < lengths[token]; i++) {
                number = number * 10 + byteAt(places[token] + i) - '0';
            }
            return number;
        }

        /** The first of some names, each the number of its token, that is the name of this token. */
        int findName(int[] names, int many, int token) {
            int size = token >= 0 && token < total ? lengths[token] : 0;
            int place = size > 0 ? places[token] : 0;
            for (int n = 0; n < many && n < names.length; n++) {
                int other = names[n] >= 0 && names[n] < total ? names[n] : 0;
                int from = places[other];
                int same = 0;
                while (same < size && lengths[other] == size && bytes[place + same] == bytes[from + same]) {
                    same++;
                }
                if (size > 0 && same == size) {
                    return n;
                }
            }
            return NONE;
        }
    }

    /** A program: what is told, its statements row by row, and the code of its expressions. */
    private static final class Code {
        final int[] varStarts;
        final int[] arrayBases;
        final int[] arraySizes;
        final int[] firstStatements;
        final int[] nameCounts;
        final int[] ownCounts;
        int[] rows;
        int[] ops;
        int[] args;
        int vars;
        int arrays;
        int cells;
        int functions;
        int statements;
        int main;
        int length;

        Code() {
            varStarts = new int[MOST_VARS];
            arrayBases = new int[MOST_ARRAYS];
            arraySizes = new int[MOST_ARRAYS];
            firstStatements = new int[MOST_FUNCTIONS];
            nameCounts = new int[MOST_FUNCTIONS];
            ownCounts = new int[MOST_FUNCTIONS];
            rows = new int[8 * COLUMNS];
            ops = new int[64];
            args = new int[64];
        }

        void clear() {
            vars = 0;
            arrays = 0;
            cells = 0;
            functions = 0;
            statements = 0;
            main = NONE;
            length = 0;
            Arrays.fill(firstStatements, NONE);
        }

        int shared() {
            return vars + cells;
        }

        boolean isShared(int i) {
            return i >= 0 && i < vars + cells;
        }

        int howMany(int what) {
            switch (what) {
                case 0:
                    return vars;
                case 1:
                    return arrays;
                case 2:
                    return functions;
                default:
                    return statements;
            }
        }

        /** The statement that a function begins with, NONE if it has none. */
        int firstOf(int function) {
            return function >= 0 && function < MOST_FUNCTIONS ? firstStatements[function] : NONE;
        }

        int addStatement() {
            int from = statements * COLUMNS;
            if (from + COLUMNS > rows.length) {
                rows = Arrays.copyOf(rows, (from + COLUMNS) * 2);
            }
            Arrays.fill(rows, from, from + COLUMNS, NONE);
            rows[from + SORT] = NOWHERE;
            rows[from + CODE] = length;
            rows[from + EXPS] = 0;
            statements++;
            return statements - 1;
        }

        int column(int s, int what) {
            return s >= 0 && s < statements ? rows[s * COLUMNS + what] : NONE;
        }

        void setColumn(int s, int what, int number) {
            if (s >= 0 && s < statements) {
                rows[s * COLUMNS + what] = number;
            }
        }

        void emit(int op, int arg) {
            if (length >= ops.length) {
                ops = Arrays.copyOf(ops, length * 2);
                args = Arrays.copyOf(args, length * 2);
            }
            ops[length] = op;
            args[length] = arg;
            length++;
        }

        /** So far a statement knows only the one behind it in its own block. */
        void linkFollows() {
            for (int s = 0; s < statements; s++) {
                int parent = column(s, PARENT);
                if (column(s, FOLLOW) == NONE && parent != NONE) {
                    setColumn(s, FOLLOW, column(parent, KIND) == WHILE ? parent : column(parent, FOLLOW));
                }
            }
        }
    }

    /** Makes a program of a tape's tokens, from the left, with one token looked at. */
    private static final class Parser {
        final Tape tape;
        Code code;
        int at;
        int kind;
        int open;
        boolean inside;
        final int[] varNames;
        final int[] arrayNames;
        final int[] functionNames;
        final int[] ownNames;
        int owns;
        final int[] owners;
        final int[] lasts;
        final boolean[] elses;
        int blocks;
        int[] waiting;
        int waits;
        int faultCode;
        int faultPlace;

        Parser(Tape tape, Code code) {
            this.tape = tape;
            this.code = code;
            varNames = new int[MOST_VARS];
            arrayNames = new int[MOST_ARRAYS];
            functionNames = new int[MOST_FUNCTIONS];
            ownNames = new int[MOST_OWN];
            owners = new int[MOST_BRACKETS + 1];
            lasts = new int[MOST_BRACKETS + 1];
            elses = new boolean[MOST_BRACKETS + 1];
            waiting = new int[16];
        }

        void read(Code fresh) {
            tape.split();
            code = fresh;
            code.clear();
            at = NONE;
            open = 0;
            inside = false;
            owns = 0;
            blocks = 0;
            take();
            for (int n = 0; n <= tape.total && (inside || kind != END); n++) {
                if (!inside) {
                    item();
                } else if (kind == '}') {
                    closeBlock();
                } else {
                    statement(addStatement());
                }
            }
            findCalled();
            code.linkFollows();
        }

        private void take() {
            at++;
            kind = at >= 0 && at < tape.total ? tape.kinds[at] : END;
        }

        /** A bad token that is looked at has been read before anything is told of those before it. */
        private void refuse(int fault, int token) {
            int place = kind == BAD ? at : token;
            faultCode = kind == BAD ? 1 : fault;
            faultPlace = place >= 0 && place < tape.total ? tape.places[place] : tape.length;
            throw new IllegalStateException("a fault of the text");
        }

        private void expect(int wanted) {
            if (kind != wanted) {
                refuse(2, at);
            }
        }

        private void pass(int wanted) {
            if (kind != wanted) {
                refuse(2, at);
            }
            take();
        }

        private void openSign(int sign) {
            if (kind != sign) {
                refuse(2, at);
            }
            if (open >= MOST_BRACKETS) {
                refuse(3, at);
            }
            open++;
            take();
        }

        private void closeSign(int sign) {
            if (kind != sign) {
                refuse(2, at);
            }
            open--;
            take();
        }

        /** A NAME that is to be told, one more of so many. */
        private int newName(int many, int most) {
            expect(NAME);
            boolean old = tape.findName(varNames, code.vars, at) != NONE
                    || tape.findName(arrayNames, code.arrays, at) != NONE
                    || tape.findName(functionNames, code.functions, at) != NONE
                    || tape.findName(ownNames, owns, at) != NONE;
            if (old) {
                refuse(10, at);
            }
            if (many >= most) {
                refuse(15, at);
            }
            take();
            return at - 1;
        }

        private void addOwn(int name) {
            if (owns < MOST_OWN) {
                ownNames[owns] = name;
                owns++;
            }
        }

        private void item() {
            int word = kind;
            if (word != WORD_VAR && word != WORD_ARR && word != WORD_FUNC) {
                refuse(2, at);
            }
            take();
            if (word == WORD_VAR) {
                varItem();
            } else if (word == WORD_ARR) {
                arrayItem();
            } else {
                functionHead();
            }
        }

        private void varItem() {
            int name = newName(code.vars, MOST_VARS);
            int start = 0;
            if (kind == '=') {
                take();
                boolean minus = kind == '-';
                if (minus) {
                    take();
                }
                expect(NUMBER);
                start = minus ? -tape.numberAt(at) : tape.numberAt(at);
                take();
            }
            pass(';');
            if (code.vars < MOST_VARS) {
                varNames[code.vars] = name;
                code.varStarts[code.vars] = start;
                code.vars++;
            }
        }

        private void arrayItem() {
            int name = newName(code.arrays, MOST_ARRAYS);
            openSign('[');
            expect(NUMBER);
            int many = tape.numberAt(at);
            if (many < 1 || many > MOST_CELLS) {
                refuse(12, at);
            }
            take();
            closeSign(']');
            pass(';');
            if (code.arrays < MOST_ARRAYS) {
                arrayNames[code.arrays] = name;
                code.arrayBases[code.arrays] = code.cells;
                code.arraySizes[code.arrays] = many;
                code.arrays++;
                code.cells += many;
            }
        }

        private void functionHead() {
            int name = newName(code.functions, MOST_FUNCTIONS);
            openSign('(');
            boolean more = kind != ')';
            for (int n = 0; more && n <= MOST_NAMES; n++) {
                addOwn(newName(owns, MOST_NAMES));
                more = kind == ',';
                if (more) {
                    take();
                }
            }
            closeSign(')');
            openSign('{');
            if (code.functions < MOST_FUNCTIONS) {
                functionNames[code.functions] = name;
                code.nameCounts[code.functions] = owns;
            }
            inside = true;
            pushBlock(NONE, false);
        }

        private void pushBlock(int owner, boolean isElse) {
            if (blocks < owners.length) {
                owners[blocks] = owner;
                lasts[blocks] = NONE;
                elses[blocks] = isElse;
                blocks++;
            }
        }

        /** A function is told behind its end, so it is counted only here. */
        private void closeBlock() {
            closeSign('}');
            blocks = blocks > 0 ? blocks - 1 : 0;
            int owner = owners[blocks];
            if (owner == NONE) {
                if (code.functions < MOST_FUNCTIONS) {
                    code.ownCounts[code.functions] = owns;
                    code.functions++;
                }
                owns = 0;
                inside = false;
            } else if (kind == WORD_ELSE && code.column(owner, KIND) == IF && !elses[blocks]) {
                take();
                openSign('{');
                pushBlock(owner, true);
            }
        }

        private int addStatement() {
            if (kind != NAME && kind != WORD_LOCAL && kind != WORD_IF && (kind < WORD_WHILE || kind > WORD_GAIN)) {
                refuse(2, at);
            }
            if (code.statements >= MOST_STATEMENTS) {
                refuse(15, at);
            }
            int s = code.addStatement();
            int block = blocks > 0 ? blocks - 1 : 0;
            int owner = owners[block];
            if (lasts[block] != NONE) {
                code.setColumn(lasts[block], FOLLOW, s);
            } else if (owner != NONE) {
                code.setColumn(owner, elses[block] ? OTHER : BODY, s);
            } else if (code.functions < MOST_FUNCTIONS) {
                code.firstStatements[code.functions] = s;
            }
            lasts[block] = s;
            code.setColumn(s, PARENT, owner);
            code.setColumn(s, FUNCTION, code.functions);
            return s;
        }

        private void statement(int s) {
            if (kind == WORD_LOCAL) {
                localStatement(s);
            } else if (kind != NAME) {
                wordStatement(s);
            } else {
                int name = at;
                take();
                if (kind == '[') {
                    setPlace(s, CELL, findArray(name));
                    openSign('[');
                    expression(NONE, NONE);
                    closeSign(']');
                } else if (kind == '=' || kind == '~') {
                    int own = findVariable(name);
                    setPlace(s, own >= 0 ? OWN : SHARED, own >= 0 ? own : tape.findName(varNames, code.vars, name));
                }
                boolean called = kind == '(' && code.column(s, SORT) == NOWHERE;
                int taken = called ? name : behindPlace(s);
                code.setColumn(s, CALLEE, taken);
                if (called || taken != NONE && kind == '(') {
                    code.setColumn(s, KIND, CALL);
                }
                if (code.column(s, KIND) == SPREAD) {
                    spread(s);
                } else {
                    finish(s, code.column(s, KIND));
                }
                pass(';');
            }
        }

        private void localStatement(int s) {
            take();
            int name = newName(owns, MOST_OWN);
            pass('=');
            expression(s, NONE);
            pass(';');
            setPlace(s, OWN, owns);
            code.setColumn(s, KIND, SET);
            addOwn(name);
        }

        private void wordStatement(int s) {
            int word = kind;
            take();
            expression(s, NONE);
            if (word == WORD_IF || word == WORD_WHILE) {
                code.setColumn(s, KIND, word == WORD_IF ? IF : WHILE);
                openSign('{');
                pushBlock(s, false);
                return;
            }
            code.setColumn(s, KIND, word == WORD_RETURN ? RETURN : word == WORD_OBSERVE ? OBSERVE : GAIN);
            pass(';');
        }

        private void setPlace(int s, int sort, int index) {
            code.setColumn(s, SORT, sort);
            code.setColumn(s, INDEX, index);
        }

        private int findArray(int name) {
            int array = tape.findName(arrayNames, code.arrays, name);
            if (array == NONE) {
                refuse(11, name);
            }
            return array;
        }

        /** The number of a function's own variable, or NONE for one of the program. */
        private int findVariable(int name) {
            int own = tape.findName(ownNames, owns, name);
            if (own == NONE && tape.findName(varNames, code.vars, name) == NONE) {
                refuse(11, name);
            }
            return own;
        }

        /** Takes what tells the statement's kind; the NAME behind = where there is one, for it may be called. */
        private int behindPlace(int s) {
            boolean draws = kind == '~';
            if (!draws) {
                expect('=');
            }
            take();
            int found = SET;
            if (draws) {
                found = kind == '{' ? SPREAD : kind == WORD_PICK ? PICK : FLIP;
                if (found == FLIP) {
                    expect(WORD_FLIP);
                }
            } else if (kind == WORD_CHOOSE) {
                found = CHOOSE;
            }
            code.setColumn(s, KIND, found);
            boolean name = found == SET && kind == NAME && code.column(s, SORT) != CELL;
            if (name || found == PICK || found == FLIP || found == CHOOSE) {
                take();
            }
            return name ? at - 1 : NONE;
        }

        private void finish(int s, int found) {
            if (found == SET) {
                expression(s, code.column(s, CALLEE));
                return;
            }
            openSign('(');
            boolean more = found != CALL || kind != ')';
            for (int n = 0; more && n <= tape.total; n++) {
                expression(s, NONE);
                more = found == CALL ? kind == ',' : found == FLIP && n == 0;
                if (more) {
                    pass(',');
                }
            }
            closeSign(')');
        }

        private void spread(int s) {
            openSign('{');
            boolean more = true;
            for (int n = 0; more && n <= MOST_PAIRS; n++) {
                expression(s, NONE);
                expect(':');
                if (n >= MOST_PAIRS) {
                    refuse(15, at);
                }
                take();
                expression(s, NONE);
                more = kind == ',';
                if (more) {
                    take();
                }
            }
            closeSign('}');
        }

        /** One more expression of a statement (s NONE: of its place); its first NAME may be taken already. */
        private void expression(int s, int taken) {
            code.setColumn(s, EXPS, code.column(s, EXPS) + 1);
            waits = 0;
            int name = taken;
            boolean wanted = true;
            boolean more = true;
            for (int n = 0; more && n <= 2 * tape.total; n++) {
                if (wanted && name == NONE && kind == NAME) {
                    name = at;
                    take();
                } else if (wanted) {
                    wanted = name == NONE ? operand() : operandName(name);
                    name = NONE;
                } else if (binary(kind) != NONE) {
                    operator(binary(kind));
                    wanted = true;
                } else {
                    emitWaiting(1);
                    more = waits > 0;
                    if (more) {
                        closeInner();
                    }
                }
            }
            code.emit(OP_STOP, 0);
        }

        /** Whether an operand is still wanted behind what is taken here. */
        private boolean operand() {
            boolean number = kind == NUMBER;
            if (number) {
                code.emit(OP_NUMBER, tape.numberAt(at));
                take();
            } else if (kind == '!' || kind == '-') {
                hold(kind == '!' ? OP_NOT : OP_MINUS);
                take();
            } else {
                openSign('(');
                hold(OPEN_ROUND);
            }
            return !number;
        }

        private boolean operandName(int name) {
            if (kind == '[') {
                int array = findArray(name);
                openSign('[');
                hold(OPEN_SQUARE + array);
                return true;
            }
            if (kind == '(') {
                refuse(2, at);
            }
            int own = findVariable(name);
            code.emit(own >= 0 ? OP_OWN : OP_SHARED, own >= 0 ? own : tape.findName(varNames, code.vars, name));
            return false;
        }

        private void operator(int op) {
            int rank = rankOf(op);
            emitWaiting(rank == 3 ? 4 : rank);
            if (rank == 3 && waits > 0 && rankOf(waiting[waits - 1]) == 3) {
                refuse(2, at);
            }
            hold(op);
            take();
        }

        private void closeInner() {
            int bracket = waiting[waits - 1];
            closeSign(bracket == OPEN_ROUND ? ')' : ']');
            waits--;
            if (bracket != OPEN_ROUND) {
                code.emit(OP_CELL, bracket - OPEN_SQUARE);
            }
        }

        private void hold(int op) {
            if (waits >= waiting.length) {
                waiting = Arrays.copyOf(waiting, waits * 2);
            }
            waiting[waits] = op;
            waits++;
        }

        private void emitWaiting(int rank) {
            while (waits > 0 && rankOf(waiting[waits - 1]) >= rank) {
                waits--;
                code.emit(waiting[waits], 0);
            }
        }

        private static int rankOf(int op) {
            if (op >= OPEN_ROUND) {
                return 0;
            }
            if (op >= OP_TIMES) {
                return 5;
            }
            if (op >= OP_ADD) {
                return 4;
            }
            if (op >= OP_SAME) {
                return 3;
            }
            return op == OP_AND ? 2 : op == OP_OR ? 1 : 6;
        }

        private static int binary(int kind) {
            switch (kind) {
                case '|':
                    return OP_OR;
                case '&':
                    return OP_AND;
                case SIGN_SAME:
                    return OP_SAME;
                case SIGN_OTHER:
                    return OP_OTHER;
                case '<':
                    return OP_BELOW;
                case SIGN_MOST:
                    return OP_MOST;
                case '>':
                    return OP_ABOVE;
                case SIGN_LEAST:
                    return OP_LEAST;
                case '+':
                    return OP_ADD;
                case '-':
                    return OP_TAKE;
                case '*':
                    return OP_TIMES;
                case '/':
                    return OP_OVER;
                case '%':
                    return OP_REST;
                default:
                    return NONE;
            }
        }

        /** Functions may be told behind their calls, so these are looked at last. */
        private void findCalled() {
            for (int s = 0; s < code.statements; s++) {
                if (code.column(s, KIND) == CALL) {
                    int name = code.column(s, CALLEE);
                    int called = tape.findName(functionNames, code.functions, name);
                    if (called == NONE || code.nameCounts[called] != code.column(s, EXPS)) {
                        refuse(16, name);
                    }
                    code.setColumn(s, CALLEE, called);
                }
            }
            for (int f = 0; f < code.functions && f < MOST_FUNCTIONS; f++) {
                if (tape.isMain(functionNames[f]) && code.nameCounts[f] == 0) {
                    code.main = f;
                }
            }
            if (code.main == NONE) {
                refuse(17, at);
            }
        }
    }

    /** A run: its memory has the vars and cells, then of each open call what it is AT and its variables. */
    private static final class Machine {
        static final int FRAME = MOST_OWN + 1;
        static final int MEMORY = MOST_SHARED + MOST_CALLS * FRAME;

        Code code;
        final int[] memory;
        int shared;
        int open;
        /** Where in the memory the latest call begins. */
        int frame;
        final int[] stack;
        int pc;
        final int[] worked;
        int target;
        /** Where the latest call goes, NONE if it returns its answer. */
        int going;
        int answer;
        int outcome;
        int number;
        int failure;
        int gained;
        /** SPREAD or CHOOSE while a way must be settled, else NONE. */
        int wants;
        int ways;
        int total;
        final int[] values;
        final int[] weights;

        Machine(Code code) {
            this.code = code;
            memory = new int[MEMORY];
            stack = new int[256];
            worked = new int[2 * MOST_PAIRS];
            values = new int[64];
            weights = new int[64];
        }

        void begin(Code program) {
            code = program;
            shared = Math.min(program.shared(), MOST_SHARED);
            Arrays.fill(memory, 0);
            System.arraycopy(program.varStarts, 0, memory, 0, Math.min(program.vars, MOST_VARS));
            open = 1;
            frame = shared;
            failure = 0;
            gained = 0;
            wants = NONE;
            outcome = RUNS;
            going = program.firstOf(program.main);
            answer = 0;
            proceed();
        }

        int length() {
            return shared + open * FRAME;
        }

        void load(Hoard states, int k) {
            states.copyTo(k, memory);
            open = Math.max((states.lengthOf(k) - shared) / FRAME, 1);
            frame = shared + (open - 1) * FRAME;
            outcome = RUNS;
        }

        void fail(int why) {
            failure = why;
            outcome = FAILS;
        }

        /** Does the statement that the latest call is AT, but for what is drawn or chosen. */
        void act() {
            int s = memory[frame];
            wants = NONE;
            gained = 0;
            failure = 0;
            pc = code.column(s, CODE);
            aim(s);
            int many = code.column(s, EXPS);
            for (int n = 0; n < many && n < worked.length && failure == 0; n++) {
                worked[n] = work();
            }
            if (failure != 0) {
                outcome = FAILS;
                return;
            }
            going = code.column(s, FOLLOW);
            answer = 0;
            obey(s, code.column(s, KIND));
            if (wants == NONE && outcome == RUNS) {
                proceed();
            }
        }

        private void aim(int s) {
            int sort = code.column(s, SORT);
            int index = code.column(s, INDEX);
            if (sort != CELL) {
                target = slot(sort, index);
                return;
            }
            int cell = work();
            target = failure == 0 ? cellAt(index, cell) : 0;
            if (target == NONE) {
                failure = NO_PLACE;
            }
        }

        private int slot(int sort, int index) {
            return sort == OWN ? frame + 1 + index : sort == SHARED ? index : NONE;
        }

        private int cellAt(int array, int cell) {
            boolean there = array >= 0 && array < MOST_ARRAYS && cell >= 0 && cell < code.arraySizes[array];
            return there ? code.vars + code.arrayBases[array] + cell : NONE;
        }

        private void put(int place, int what) {
            if (place >= 0 && place < memory.length) {
                memory[place] = what;
            }
        }

        private void obey(int s, int kind) {
            int first = worked[0];
            switch (kind) {
                case SET:
                    put(target, first);
                    break;
                case PICK:
                case FLIP:
                case SPREAD:
                    spreadOut(s, kind);
                    break;
                case CHOOSE:
                    offer(first);
                    break;
                case CALL:
                    openCall(code.column(s, CALLEE), code.column(s, EXPS));
                    break;
                case IF:
                    int block = code.column(s, first != 0 ? BODY : OTHER);
                    going = block == NONE ? going : block;
                    break;
                case WHILE:
                    int body = code.column(s, BODY);
                    going = first == 0 ? going : body == NONE ? s : body;
                    break;
                case RETURN:
                    going = NONE;
                    answer = first;
                    break;
                case OBSERVE:
                    outcome = first == 0 ? CUTS : RUNS;
                    break;
                default:
                    gained = first;
            }
        }

        private void openCall(int function, int many) {
            if (open >= MOST_CALLS) {
                fail(TOO_DEEP);
                return;
            }
            open++;
            frame += FRAME;
            Arrays.fill(memory, frame, frame + FRAME, 0);
            for (int n = 0; n < many && n < MOST_NAMES; n++) {
                memory[frame + 1 + n] = worked[n];
            }
            going = code.firstOf(function);
        }

        /** The latest call goes on, or returns, and so do those that have nothing behind their calls then. */
        private void proceed() {
            for (int n = 0; n <= MOST_CALLS; n++) {
                if (going != NONE) {
                    memory[frame] = going;
                    return;
                }
                open--;
                if (open <= 0) {
                    outcome = ENDS;
                    number = answer;
                    return;
                }
                frame -= FRAME;
                int s = memory[frame];
                put(slot(code.column(s, SORT), code.column(s, INDEX)), answer);
                going = code.column(s, FOLLOW);
                answer = 0;
            }
        }

        private void offer(int many) {
            if (many < 1 || many > 8) {
                fail(BAD_CHOICE);
                return;
            }
            ways = many;
            total = 0;
            for (int n = 0; n < many; n++) {
                values[n] = n;
                weights[n] = 1;
            }
            wants = CHOOSE;
        }

        private void spreadOut(int s, int kind) {
            if (kind == PICK) {
                ways = worked[0] >= 1 && worked[0] <= 64 ? worked[0] : 0;
                for (int n = 0; n < ways; n++) {
                    values[n] = n;
                    weights[n] = 1;
                }
            } else if (kind == FLIP) {
                ways = 2;
                values[0] = 1;
                weights[0] = worked[0];
                values[1] = 0;
                weights[1] = worked[1];
            } else {
                ways = Math.min(code.column(s, EXPS) / 2, MOST_PAIRS);
                for (int n = 0; n < ways; n++) {
                    values[n] = worked[2 * n];
                    weights[n] = worked[2 * n + 1];
                }
            }
            total = 0;
            boolean good = true;
            for (int n = 0; n < ways; n++) {
                good = good && weights[n] >= 0 && weights[n] <= 1000000;
                total += weights[n];
            }
            if (good && total > 0) {
                wants = SPREAD;
            } else {
                fail(BAD_DRAW);
            }
        }

        /** What is drawn or chosen is the way of this number. */
        void settle(int way) {
            if (way >= 0 && way < ways) {
                put(target, values[way]);
            }
            going = code.column(memory[frame], FOLLOW);
            answer = 0;
            proceed();
        }

        int wayAt(long random) {
            long rest = total > 0 ? random % total : 0;
            long sum = 0;
            for (int n = 0; n < ways; n++) {
                sum += weights[n];
                if (sum > rest) {
                    return n;
                }
            }
            return 0;
        }

        /** Works out the expression at pc, which is behind it then; what it FAILS with is kept. */
        private int work() {
            int depth = 0;
            for (; pc >= 0 && pc < code.length; pc++) {
                int op = code.ops[pc];
                if (op == OP_STOP) {
                    pc++;
                    return depth > 0 ? stack[depth - 1] : 0;
                }
                if (op <= OP_OWN) {
                    if (depth < stack.length) {
                        stack[depth] = fetch(op, code.args[pc]);
                        depth++;
                    }
                } else if (op == OP_CELL && depth > 0) {
                    int place = cellAt(code.args[pc], stack[depth - 1]);
                    if (place == NONE) {
                        failure = NO_PLACE;
                        return 0;
                    }
                    stack[depth - 1] = memory[place];
                } else if (op <= OP_NOT && depth > 0) {
                    int a = stack[depth - 1];
                    stack[depth - 1] = op == OP_MINUS ? -a : a == 0 ? 1 : 0;
                } else if (depth > 1) {
                    depth--;
                    if (op >= OP_OVER && stack[depth] == 0) {
                        failure = BY_ZERO;
                        return 0;
                    }
                    stack[depth - 1] = combine(op, stack[depth - 1], stack[depth]);
                }
            }
            return 0;
        }

        private int fetch(int op, int arg) {
            if (op == OP_NUMBER) {
                return arg;
            }
            int place = op == OP_OWN ? frame + 1 + arg : arg;
            return place >= 0 && place < memory.length ? memory[place] : 0;
        }

        private static int combine(int op, int a, int b) {
            switch (op) {
                case OP_OR:
                    return a != 0 || b != 0 ? 1 : 0;
                case OP_AND:
                    return a != 0 && b != 0 ? 1 : 0;
                case OP_SAME:
                    return a == b ? 1 : 0;
                case OP_OTHER:
                    return a != b ? 1 : 0;
                case OP_BELOW:
                    return a < b ? 1 : 0;
                case OP_MOST:
                    return a <= b ? 1 : 0;
                case OP_ABOVE:
                    return a > b ? 1 : 0;
                case OP_LEAST:
                    return a >= b ? 1 : 0;
                case OP_ADD:
                    return a + b;
                case OP_TAKE:
                    return a - b;
                case OP_TIMES:
                    return a * b;
                case OP_OVER:
                    return b != 0 ? a / b : 0;
                default:
                    return b != 0 ? a % b : 0;
            }
        }
    }

    /** Rows of numbers, each kept once and numbered as they come. */
    private static final class Hoard {
        final int most;
        final int widest;
        final int slots;
        int[] starts;
        int[] table;
        int[] pool;
        int total;

        /** So many rows, of so many numbers each; slots are a power of two, at least twice as many as the rows. */
        Hoard(int most, int widest, int slots) {
            this.most = most;
            this.widest = widest;
            this.slots = slots;
            starts = new int[1];
            table = new int[0];
            pool = new int[16];
        }

        void clear() {
            if (table.length == 0) {
                table = new int[slots];
                starts = new int[most + 1];
            }
            Arrays.fill(table, 0);
            total = 0;
        }

        int lengthOf(int k) {
            return k >= 0 && k < total ? starts[k + 1] - starts[k] : 0;
        }

        int part(int k, int i) {
            return i >= 0 && i < lengthOf(k) ? pool[starts[k] + i] : 0;
        }

        void copyTo(int k, int[] row) {
            int length = Math.min(lengthOf(k), row.length);
            if (length > 0) {
                System.arraycopy(pool, starts[k], row, 0, length);
            }
        }

        private int slotOf(int[] row, int length) {
            int hash = length;
            for (int i = 0; i < length; i++) {
                hash = (hash ^ row[i]) * 0x9E3779B1;
                hash ^= hash >>> 15;
            }
            int slot = hash & (table.length - 1);
            for (int n = 0; n < table.length; n++) {
                if (table[slot] == 0 || isRow(table[slot] - 1, row, length)) {
                    return slot;
                }
                slot = (slot + 1) & (table.length - 1);
            }
            return slot;
        }

        private boolean isRow(int k, int[] row, int length) {
            int from = starts[k];
            if (starts[k + 1] - from != length) {
                return false;
            }
            for (int i = 0; i < length; i++) {
                if (pool[from + i] != row[i]) {
                    return false;
                }
            }
            return true;
        }

        int find(int[] row, int length) {
            if (table.length == 0 || length > row.length) {
                return NONE;
            }
            return table[slotOf(row, length)] - 1;
        }

        /** The number of a row, which is new perhaps; NONE if it would be one too many. */
        int enter(int[] row, int length, int limit) {
            if (table.length == 0 || length > row.length) {
                return NONE;
            }
            int slot = slotOf(row, length);
            if (table[slot] != 0) {
                return table[slot] - 1;
            }
            if (total >= limit || total >= most || length > widest) {
                return NONE;
            }
            int from = starts[total];
            if (from + length > pool.length) {
                pool = Arrays.copyOf(pool, Math.min((from + length) * 2, most * widest));
            }
            System.arraycopy(row, 0, pool, from, length);
            total++;
            starts[total] = from + length;
            table[slot] = total;
            return total - 1;
        }
    }

    /** What is explored: states, endings, nexts, and the plan. */
    private static final class Atlas {
        final Machine machine;
        final Web web;
        final Hoard states;
        final Hoard endings;
        boolean explored;
        Code code;
        int[] firsts;
        int[] totals;
        int[] gains;
        int[] plan;
        boolean[] chooses;
        boolean[] hopeless;
        int[] sorts;
        int[] numbers;
        int[] weights;
        int nexts;
        int rings;
        int greatest;

        Atlas(Machine machine, Code code) {
            this.machine = machine;
            this.code = code;
            web = new Web();
            states = new Hoard(MOST_STATES, Machine.MEMORY, 2048);
            endings = new Hoard(MOST_ENDINGS, MOST_SHARED + 1, 2048);
            firsts = new int[1];
            totals = new int[0];
            gains = new int[0];
            plan = new int[0];
            chooses = new boolean[0];
            hopeless = new boolean[0];
            sorts = new int[64];
            numbers = new int[64];
            weights = new int[64];
        }

        private void clear() {
            if (plan.length == 0) {
                firsts = new int[MOST_STATES + 1];
                totals = new int[MOST_STATES];
                gains = new int[MOST_STATES];
                plan = new int[MOST_STATES];
                chooses = new boolean[MOST_STATES];
                hopeless = new boolean[MOST_STATES];
            }
            states.clear();
            endings.clear();
            Arrays.fill(plan, 0);
            nexts = 0;
            rings = 0;
            greatest = 0;
        }

        boolean holds(int k) {
            return explored && k >= 0 && k < states.total;
        }

        boolean holdsEnding(int k) {
            return explored && k >= 0 && k < endings.total;
        }

        int waysOf(int k) {
            return firsts[k + 1] - firsts[k];
        }

        /** What the odds of a state's nexts are counted in, with the plan. */
        int divisorOf(int k) {
            return chooses[k] ? 1 : totals[k];
        }

        boolean isTaken(int k, int at) {
            return !chooses[k] || at == firsts[k] + plan[k];
        }

        int callsOf(int k) {
            return (states.lengthOf(k) - code.shared()) / Machine.FRAME;
        }

        int statementOf(int k, int call) {
            return states.part(k, code.shared() + call * Machine.FRAME);
        }

        boolean hasVariable(int k, int call, int i) {
            if (call == NONE) {
                return code.isShared(i);
            }
            if (call < 0 || call >= callsOf(k) || i < 0) {
                return false;
            }
            int function = code.column(statementOf(k, call), FUNCTION);
            return function >= 0 && function < MOST_FUNCTIONS && i < code.ownCounts[function];
        }

        int variableOf(int k, int call, int i) {
            return states.part(k, call == NONE ? i : code.shared() + call * Machine.FRAME + 1 + i);
        }

        /** What the plan takes at the state of a run; 0 where nothing is planned. */
        int chosen(Machine run) {
            int k = explored ? states.find(run.memory, run.length()) : NONE;
            return k != NONE && plan[k] < run.ways ? plan[k] : 0;
        }

        int howMany(int what) {
            switch (what) {
                case 4:
                    return states.total;
                case 5:
                    return endings.total;
                case 6:
                    return nexts;
                case 7:
                    return rings;
                case 8:
                    return greatest;
                default:
                    return countTrue(what == 9 ? chooses : hopeless);
            }
        }

        private int countTrue(boolean[] marks) {
            int many = 0;
            for (int k = 0; k < states.total && k < marks.length; k++) {
                many += marks[k] ? 1 : 0;
            }
            return many;
        }

        int discover(Code program, int most) {
            explored = false;
            code = program;
            clear();
            machine.begin(program);
            if (machine.outcome == ENDS) {
                machine.memory[machine.shared] = 0;
                endings.enter(machine.memory, machine.shared + 1, MOST_ENDINGS);
            } else {
                states.enter(machine.memory, machine.length(), most);
            }
            for (int k = 0; k < states.total && k < most; k++) {
                if (!expand(k, most)) {
                    return NONE;
                }
            }
            survey();
            explored = true;
            return states.total;
        }

        private boolean expand(int k, int most) {
            firsts[k] = nexts;
            machine.load(states, k);
            machine.act();
            boolean draws = machine.wants == SPREAD;
            chooses[k] = machine.wants == CHOOSE;
            totals[k] = draws ? machine.total : chooses[k] ? 0 : 1;
            gains[k] = machine.gained;
            boolean room = true;
            if (!draws && !chooses[k]) {
                room = lead(k, 1, most);
            }
            for (int way = 0; (draws || chooses[k]) && way < machine.ways && room; way++) {
                if (machine.weights[way] > 0) {
                    machine.load(states, k);
                    machine.settle(way);
                    room = lead(k, machine.weights[way], most);
                }
            }
            firsts[k + 1] = nexts;
            return room;
        }

        /** One more next of a state, to where the machine has come; false if there is no room. */
        private boolean lead(int k, int weight, int most) {
            int sort = machine.outcome;
            int to = 0;
            if (sort == RUNS) {
                to = states.enter(machine.memory, machine.length(), most);
            } else if (sort == ENDS) {
                machine.memory[machine.shared] = machine.number;
                to = endings.enter(machine.memory, machine.shared + 1, MOST_ENDINGS);
            } else if (sort == FAILS) {
                to = machine.failure;
            }
            if (to == NONE) {
                return false;
            }
            for (int at = firsts[k]; at < nexts && !chooses[k]; at++) {
                if (sorts[at] == sort && numbers[at] == to) {
                    weights[at] += weight;
                    return true;
                }
            }
            return addNext(sort, to, weight);
        }

        private boolean addNext(int sort, int to, int weight) {
            if (nexts >= MOST_NEXTS) {
                return false;
            }
            if (nexts >= sorts.length) {
                int room = Math.min(nexts * 2, MOST_NEXTS);
                sorts = Arrays.copyOf(sorts, room);
                numbers = Arrays.copyOf(numbers, room);
                weights = Arrays.copyOf(weights, room);
            }
            sorts[nexts] = sort;
            numbers[nexts] = to;
            weights[nexts] = weight;
            nexts++;
            return true;
        }

        private void survey() {
            web.weave(this, false);
            web.knot();
            for (int k = 0; k < states.total; k++) {
                hopeless[k] = !web.open[k];
            }
            for (int c = 0; c < web.knots; c++) {
                if (web.isRing(c)) {
                    rings++;
                    greatest = Math.max(greatest, web.sizeOf(c));
                }
            }
        }
    }

    /** The links between states, by all nexts or by the plan, and their knots (states that come to each other). */
    private static final class Web {
        int total;
        int[] firsts;
        int[] targets;
        int[] backFirsts;
        int[] sources;
        int[] edges;
        /** Whether a state can come to what is no state. */
        boolean[] open;
        int knots;
        int[] knotFirsts;
        int[] knotOf;
        /** The states, knot by knot: whatever a knot leads to stands before it. */
        int[] order;
        private int[] seen;
        private int[] low;
        private int[] cursor;
        private int[] path;
        private int[] heap;
        private int heaped;
        private int placed;
        private int stamp;

        Web() {
            firsts = new int[1];
            targets = new int[64];
            backFirsts = new int[1];
            sources = new int[64];
            edges = new int[64];
            open = new boolean[0];
            knotFirsts = new int[1];
            knotOf = new int[0];
            order = new int[0];
            seen = new int[0];
            low = new int[0];
            cursor = new int[0];
            path = new int[0];
            heap = new int[0];
        }

        private void makeRows() {
            if (open.length == 0) {
                firsts = new int[MOST_STATES + 1];
                backFirsts = new int[MOST_STATES + 1];
                open = new boolean[MOST_STATES];
                knotFirsts = new int[MOST_STATES + 1];
                knotOf = new int[MOST_STATES];
                order = new int[MOST_STATES];
                seen = new int[MOST_STATES];
                low = new int[MOST_STATES];
                cursor = new int[MOST_STATES];
                path = new int[MOST_STATES];
                heap = new int[MOST_STATES];
            }
        }

        void weave(Atlas atlas, boolean byPlan) {
            makeRows();
            total = atlas.states.total;
            if (targets.length < atlas.nexts) {
                int room = Math.min(atlas.nexts * 2, MOST_NEXTS);
                targets = new int[room];
                sources = new int[room];
                edges = new int[room];
            }
            Arrays.fill(backFirsts, 0);
            int links = 0;
            int waits = 0;
            for (int k = 0; k < total; k++) {
                firsts[k] = links;
                open[k] = false;
                for (int at = atlas.firsts[k]; at < atlas.firsts[k + 1]; at++) {
                    if (byPlan && !atlas.isTaken(k, at)) {
                        continue;
                    }
                    if (atlas.sorts[at] == RUNS) {
                        targets[links] = atlas.numbers[at];
                        links++;
                        backFirsts[atlas.numbers[at] + 1]++;
                    } else if (!open[k]) {
                        open[k] = true;
                        heap[waits] = k;
                        waits++;
                    }
                }
            }
            firsts[total] = links;
            weaveBack(atlas, byPlan);
            reach(waits);
        }

        private void weaveBack(Atlas atlas, boolean byPlan) {
            for (int k = 0; k < total; k++) {
                backFirsts[k + 1] += backFirsts[k];
                cursor[k] = backFirsts[k];
            }
            for (int k = 0; k < total; k++) {
                for (int at = atlas.firsts[k]; at < atlas.firsts[k + 1]; at++) {
                    if (atlas.sorts[at] == RUNS && (!byPlan || atlas.isTaken(k, at))) {
                        int to = atlas.numbers[at];
                        sources[cursor[to]] = k;
                        edges[cursor[to]] = at;
                        cursor[to]++;
                    }
                }
            }
        }

        /** From the open states that wait on the heap back to all that come to them. */
        private void reach(int waits) {
            int many = waits;
            for (int n = 0; n < many && n < total; n++) {
                int k = heap[n];
                for (int at = backFirsts[k]; at < backFirsts[k + 1]; at++) {
                    int from = sources[at];
                    if (!open[from]) {
                        open[from] = true;
                        heap[many] = from;
                        many++;
                    }
                }
            }
        }

        void knot() {
            Arrays.fill(seen, 0);
            Arrays.fill(knotOf, NONE);
            knots = 0;
            placed = 0;
            heaped = 0;
            stamp = 0;
            for (int k = 0; k < total; k++) {
                if (seen[k] == 0) {
                    follow(k);
                }
            }
            knotFirsts[knots] = placed;
        }

        /** Tarjan's walk, with its path held in a row for it may be a thousand states long. */
        private void follow(int root) {
            int depth = 1;
            visit(root, 0);
            long most = 2L * (firsts[total] + total) + 2;
            for (long n = 0; n < most && depth > 0; n++) {
                int k = path[depth - 1];
                if (cursor[k] < firsts[k + 1]) {
                    int to = targets[cursor[k]];
                    cursor[k]++;
                    if (seen[to] == 0) {
                        visit(to, depth);
                        depth++;
                    } else if (knotOf[to] == NONE) {
                        low[k] = Math.min(low[k], seen[to]);
                    }
                } else {
                    depth--;
                    if (depth > 0) {
                        int before = path[depth - 1];
                        low[before] = Math.min(low[before], low[k]);
                    }
                    if (low[k] == seen[k]) {
                        tie(k);
                    }
                }
            }
        }

        private void visit(int k, int depth) {
            stamp++;
            seen[k] = stamp;
            low[k] = stamp;
            cursor[k] = firsts[k];
            path[depth] = k;
            heap[heaped] = k;
            heaped++;
        }

        private void tie(int k) {
            knotFirsts[knots] = placed;
            boolean more = true;
            for (int n = 0; more && heaped > 0 && n < total; n++) {
                heaped--;
                int tied = heap[heaped];
                knotOf[tied] = knots;
                order[placed] = tied;
                placed++;
                more = tied != k;
            }
            knots++;
        }

        int sizeOf(int c) {
            return knotFirsts[c + 1] - knotFirsts[c];
        }

        boolean isRing(int c) {
            if (sizeOf(c) > 1) {
                return true;
            }
            int k = order[knotFirsts[c]];
            for (int at = firsts[k]; at < firsts[k + 1]; at++) {
                if (targets[at] == k) {
                    return true;
                }
            }
            return false;
        }
    }

    /** A whole number that is not below 0, the lowest 31 bits first: so a product of two fits a long. */
    private static final class Num {
        static final int BITS = 31;
        static final int MASK = 0x7FFFFFFF;

        int[] limbs;
        int length;

        Num(int room) {
            limbs = new int[Math.max(room, 2)];
        }

        /** Half as much again: so all the rows that a number ever has are three times its last one at most. */
        void widen(int room) {
            if (room > limbs.length) {
                limbs = Arrays.copyOf(limbs, room + room / 2 + 1);
            }
        }

        private void trim() {
            while (length > 0 && limbs[length - 1] == 0) {
                length--;
            }
        }

        void put(long small) {
            limbs[0] = (int) (small & MASK);
            limbs[1] = (int) (small >>> BITS);
            length = limbs[1] != 0 ? 2 : limbs[0] != 0 ? 1 : 0;
        }

        /** The whole number, if it has two limbs at most. */
        long small() {
            return length == 0 ? 0 : length == 1 ? limbs[0] : (long) limbs[1] << BITS | limbs[0];
        }

        void copy(Num other) {
            if (other.length > limbs.length) {
                limbs = new int[other.length + other.length / 2 + 1];
            }
            System.arraycopy(other.limbs, 0, limbs, 0, other.length);
            length = other.length;
        }

        boolean isOne() {
            return length == 1 && limbs[0] == 1;
        }

        int compare(Num other) {
            if (length != other.length) {
                return length < other.length ? -1 : 1;
            }
            for (int i = length - 1; i >= 0; i--) {
                if (limbs[i] != other.limbs[i]) {
                    return limbs[i] < other.limbs[i] ? -1 : 1;
                }
            }
            return 0;
        }

        static int bitsOf(int limb) {
            int many = 0;
            for (int rest = limb; rest > 0; rest >>= 1) {
                many++;
            }
            return many;
        }

        int bits() {
            int many = length > 0 ? (length - 1) * BITS : 0;
            for (int rest = length > 0 ? limbs[length - 1] : 0; rest > 0; rest >>= 1) {
                many++;
            }
            return many;
        }

        int words() {
            return (bits() + 31) / 32;
        }

        /** Number i of 32 bits each. */
        int word(int i) {
            int at = i * 32 / BITS;
            int shift = i * 32 % BITS;
            long low = at >= 0 && at < length ? limbs[at] : 0;
            long high = at + 1 >= 0 && at + 1 < length ? limbs[at + 1] : 0;
            return (int) (low >>> shift | high << (BITS - shift));
        }

        /** This number without its lowest bits; what is left must have 62 bits at most. */
        long high(int shift) {
            int at = shift / BITS;
            int odd = shift % BITS;
            long low = at >= 0 && at < length ? limbs[at] : 0;
            long middle = at + 1 >= 0 && at + 1 < length ? limbs[at + 1] : 0;
            long top = at + 2 >= 0 && at + 2 < length ? limbs[at + 2] : 0;
            return low >>> odd | middle << (BITS - odd) | top << (2 * BITS - odd);
        }

        /** Times a number of 0 .. 2147483648. */
        void times(long by) {
            if (by == 1) {
                return;
            }
            widen(length + 1);
            long carry = 0;
            for (int i = 0; i < length; i++) {
                long t = limbs[i] * by + carry;
                limbs[i] = (int) (t & MASK);
                carry = t >>> BITS;
            }
            limbs[length] = (int) carry;
            length++;
            trim();
        }

        /** What is left when this is divided by a number above 0. */
        int rest(int by) {
            long left = 0;
            for (int i = length - 1; i >= 0 && by > 0; i--) {
                left = (left << BITS | limbs[i]) % by;
            }
            return (int) left;
        }

        /** Divides this by a number above 0: what is left. */
        int over(int by) {
            long left = 0;
            for (int i = length - 1; i >= 0 && by > 0; i--) {
                long t = left << BITS | limbs[i];
                limbs[i] = (int) (t / by);
                left = t % by;
            }
            while (length > 0 && limbs[length - 1] == 0) {
                length--;
            }
            return (int) left;
        }

        void plus(Num other) {
            int many = Math.max(length, other.length);
            widen(many + 1);
            Arrays.fill(limbs, length, many + 1, 0);
            int carry = 0;
            for (int i = 0; i < many; i++) {
                long t = (long) limbs[i] + (i < other.length ? other.limbs[i] : 0) + carry;
                limbs[i] = (int) (t & MASK);
                carry = (int) (t >>> BITS);
            }
            limbs[many] = carry;
            length = many + 1;
            trim();
        }

        /** Less a number that is not above this one. */
        void minus(Num other) {
            int borrow = 0;
            for (int i = 0; i < length; i++) {
                int t = limbs[i] - (i < other.length ? other.limbs[i] : 0) - borrow;
                borrow = t < 0 ? 1 : 0;
                limbs[i] = t & MASK;
            }
            trim();
        }

        /** Becomes the product of two other numbers. */
        void product(Num a, Num b) {
            int many = a.length + b.length;
            widen(many);
            int[] out = limbs;
            int[] right = b.limbs;
            Arrays.fill(out, 0, many, 0);
            for (int i = 0; i < a.length; i++) {
                long left = a.limbs[i];
                long carry = 0;
                for (int j = 0; j < b.length; j++) {
                    long t = left * right[j] + out[i + j] + carry;
                    out[i + j] = (int) (t & MASK);
                    carry = t >>> BITS;
                }
                out[i + b.length] = (int) carry;
            }
            length = many;
            trim();
        }

        /** Becomes another number, moved up by 0 .. 30 bits, with one limb more that may be 0. */
        void shiftFrom(Num other, int shift) {
            if (other.length + 1 > limbs.length) {
                limbs = new int[other.length + other.length / 2 + 2];
            }
            int carry = 0;
            for (int i = 0; i < other.length; i++) {
                long t = (long) other.limbs[i] << shift | carry;
                limbs[i] = (int) (t & MASK);
                carry = (int) (t >>> BITS);
            }
            limbs[other.length] = carry;
            length = other.length + 1;
        }

        /** Becomes its own first limbs, moved down by 0 .. 30 bits. */
        void shiftBack(int many, int shift) {
            length = Math.min(many, limbs.length);
            for (int i = 0; i < length; i++) {
                long above = i + 1 < length ? limbs[i + 1] : 0;
                limbs[i] = (int) ((above << BITS | limbs[i]) >>> shift & MASK);
            }
            while (length > 0 && limbs[length - 1] == 0) {
                length--;
            }
        }

        /** Takes a multiple of the divisor from the limbs at a place on: how often it went in after all. */
        long takeAt(int place, Num divisor, long times, int many) {
            long carry = 0;
            int borrow = 0;
            for (int i = 0; i < many; i++) {
                long p = times * divisor.limbs[i] + carry;
                carry = p >>> BITS;
                int t = limbs[place + i] - (int) (p & MASK) - borrow;
                borrow = t < 0 ? 1 : 0;
                limbs[place + i] = t & MASK;
            }
            long top = limbs[place + many] - carry - borrow;
            if (top >= 0) {
                limbs[place + many] = (int) top;
                return times;
            }
            int over = 0;
            for (int i = 0; i < many; i++) {
                long t = (long) limbs[place + i] + divisor.limbs[i] + over;
                limbs[place + i] = (int) (t & MASK);
                over = (int) (t >>> BITS);
            }
            limbs[place + many] = 0;
            return times - 1;
        }
    }

    /** A fraction in lowest terms, with its sign apart. */
    private static final class Ratio {
        final Num top;
        final Num bottom;
        int sign;

        Ratio(int room) {
            top = new Num(room);
            bottom = new Num(room);
            bottom.put(1);
        }

        void putZero() {
            sign = 0;
            top.put(0);
            bottom.put(1);
        }

        void putOne() {
            sign = 1;
            top.put(1);
            bottom.put(1);
        }

        void copy(Ratio other) {
            sign = other.sign;
            top.copy(other.top);
            bottom.copy(other.bottom);
        }

        boolean fits() {
            return top.bits() <= MOST_BITS && bottom.bits() <= MOST_BITS;
        }

        /** Times a / b, where a is 0 or above and b above 0. */
        void scale(int a, int b) {
            if (a <= 0 || b <= 0 || sign == 0) {
                putZero();
                return;
            }
            int common = commonInt(a, b);
            int above = a / common;
            int below = b / common;
            int first = commonInt(below, top.rest(below));
            int second = commonInt(above, bottom.rest(above));
            if (first > 1) {
                top.over(first);
            }
            if (second > 1) {
                bottom.over(second);
            }
            top.times(above / second);
            bottom.times(below / first);
        }

        /** One whole number more; the fraction stays in lowest terms. */
        void addWhole(int whole, Num spare) {
            if (whole == 0) {
                return;
            }
            spare.copy(bottom);
            spare.times(Math.abs((long) whole));
            int side = whole > 0 ? 1 : -1;
            if (sign == -side) {
                int order = spare.compare(top);
                if (order < 0) {
                    top.minus(spare);
                    return;
                }
                spare.minus(top);
                top.copy(spare);
                sign = order == 0 ? 0 : side;
            } else {
                top.plus(spare);
                sign = side;
            }
        }
    }

    /** Division and common divisors, with the room that they need. */
    private static final class Calc {
        final Num quotient;
        Num rest;
        final Num divisor;
        Num x;
        Num y;
        final Num spare;
        final long[] factors;

        Calc() {
            factors = new long[4];
            quotient = new Num(8);
            rest = new Num(8);
            divisor = new Num(8);
            x = new Num(8);
            y = new Num(8);
            spare = new Num(8);
        }

        /** Finds the quotient and the rest of a by b, which is above 0. */
        void divide(Num a, Num b) {
            if (b.length == 0 || a.compare(b) < 0) {
                quotient.put(0);
                rest.copy(a);
                return;
            }
            if (a.length <= 2) {
                long by = b.small();
                quotient.put(by > 0 ? a.small() / by : 0);
                rest.put(by > 0 ? a.small() % by : 0);
                return;
            }
            if (b.length == 1) {
                quotient.copy(a);
                rest.put(quotient.over(b.limbs[0]));
                return;
            }
            int many = b.length;
            int shift = Num.BITS - Num.bitsOf(b.limbs[many - 1]);
            rest.shiftFrom(a, shift);
            divisor.shiftFrom(b, shift);
            quotient.copy(rest);
            long head = Math.max(divisor.limbs[many - 1], 1);
            long second = divisor.limbs[many - 2];
            int[] left = rest.limbs;
            for (int place = a.length - many; place >= 0; place--) {
                long two = (long) left[place + many] << Num.BITS | left[place + many - 1];
                long guess = Math.min(two / head, Num.MASK);
                long over = two - guess * head;
                for (int n = 0; n < 3 && over <= Num.MASK
                        && guess * second > (over << Num.BITS | left[place + many - 2]); n++) {
                    guess--;
                    over += head;
                }
                quotient.limbs[place] = (int) rest.takeAt(place, divisor, guess, many);
            }
            quotient.shiftBack(a.length - many + 1, 0);
            rest.shiftBack(many, shift);
        }

        /** x becomes the greatest number that divides both, which are not both 0. */
        void common(Num a, Num b) {
            boolean ordered = a.compare(b) >= 0;
            x.copy(ordered ? a : b);
            y.copy(ordered ? b : a);
            for (int n = 0; n < 1000000 && y.length > 0 && x.length > 2; n++) {
                if (y.length > 2 && leap()) {
                    blend(factors[0], factors[1], factors[2], factors[3]);
                } else {
                    divide(x, y);
                    Num old = x;
                    x = y;
                    y = rest;
                    rest = old;
                }
            }
            if (x.length <= 2) {
                x.put(commonLong(x.small(), y.small()));
            }
        }

        /** Lehmer's way: the factors of many steps at once, from the highest bits alone; false if none is sure. */
        private boolean leap() {
            int shift = Math.max(x.bits() - 2 * Num.BITS, 0);
            long high = x.high(shift);
            long low = y.high(shift);
            long a = 1;
            long b = 0;
            long c = 0;
            long d = 1;
            for (int n = 0; n < 100 && low + c > 0 && low + d > 0; n++) {
                long q = (high + a) / (low + c);
                if (q != (high + b) / (low + d) || q > Num.MASK) {
                    break;
                }
                long e = a - q * c;
                long f = b - q * d;
                if (e > Num.MASK || e < -Num.MASK || f > Num.MASK || f < -Num.MASK) {
                    break;
                }
                a = c;
                c = e;
                b = d;
                d = f;
                long over = high - q * low;
                high = low;
                low = over;
            }
            factors[0] = a;
            factors[1] = b;
            factors[2] = c;
            factors[3] = d;
            return b != 0;
        }

        /** x and y become a x + b y and c x + d y, which are not below 0. */
        private void blend(long a, long b, long c, long d) {
            int many = x.length;
            y.widen(many);
            Arrays.fill(y.limbs, y.length, many, 0);
            long one = 0;
            long two = 0;
            for (int i = 0; i < many; i++) {
                long left = x.limbs[i];
                long right = y.limbs[i];
                one += a * left + b * right;
                two += c * left + d * right;
                x.limbs[i] = (int) (one & Num.MASK);
                y.limbs[i] = (int) (two & Num.MASK);
                one >>= Num.BITS;
                two >>= Num.BITS;
            }
            x.length = many;
            y.length = many;
            while (x.length > 0 && x.limbs[x.length - 1] == 0) {
                x.length--;
            }
            while (y.length > 0 && y.limbs[y.length - 1] == 0) {
                y.length--;
            }
        }

        /** Brings a fraction to lowest terms. */
        void reduce(Num top, Num bottom) {
            common(top, bottom);
            if (!x.isOne() && x.length > 0) {
                divide(top, x);
                top.copy(quotient);
                divide(bottom, x);
                bottom.copy(quotient);
            }
        }

        /** The multiple becomes one of the other number too, the least such one. */
        void join(Num multiple, Num other) {
            divide(multiple, other);
            if (rest.length > 0) {
                common(other, rest);
                divide(other, x);
                spare.product(multiple, quotient);
                multiple.copy(spare);
            }
        }
    }

    /** Finds the visits of states with the plan as it is, and the best plan. */
    private static final class Solver {
        static final int WIDTH = MOST_RING + 1;
        /** A fraction of 256 bits, with a factor of 31 bits and a carry. */
        static final int KEPT_LIMBS = 11;
        /** No cell is above the product of a ring's totals, of 23 bits each. */
        static final int CELL_LIMBS = 25;

        final Atlas atlas;
        final Web web;
        final Calc calc;
        boolean solved;
        boolean planned;
        Ratio[] visits;
        Ratio[] worths;
        /** What the numbers of one sum are counted in. */
        final Num whole;
        /** A fraction that is worked on: it may be long before it is in lowest terms, so none that is kept is. */
        final Ratio part;
        final Num factor;
        final Num scaled;
        final Num term;
        final Num sum;
        final Num less;
        Num[] cells;
        int[] rows;
        int[] taken;

        Solver(Atlas atlas, Calc calc) {
            this.atlas = atlas;
            this.calc = calc;
            web = atlas.web;
            visits = new Ratio[0];
            worths = new Ratio[0];
            whole = new Num(4);
            part = new Ratio(4);
            factor = new Num(2);
            scaled = new Num(4);
            term = new Num(4);
            sum = new Num(4);
            less = new Num(4);
            cells = new Num[0];
            rows = new int[0];
            taken = new int[0];
        }

        /** Rows of fractions are made as states need them, and used again. */
        private static Ratio[] fresh(Ratio[] old, int many) {
            Ratio[] row = old;
            if (row.length < many) {
                row = new Ratio[Math.min(2 * many, MOST_STATES)];
            }
            for (int k = 0; k < many && k < row.length; k++) {
                row[k] = k < old.length && old[k] != null ? old[k] : new Ratio(KEPT_LIMBS);
                row[k].putZero();
            }
            return row;
        }

        int findVisits() {
            solved = false;
            web.weave(atlas, true);
            web.knot();
            for (int c = 0; c < web.knots; c++) {
                if (web.open[web.order[web.knotFirsts[c]]] && web.sizeOf(c) > MOST_RING) {
                    return -2;
                }
            }
            visits = fresh(visits, web.total);
            if (rows.length < web.total) {
                rows = new int[MOST_STATES];
            }
            for (int c = web.knots - 1; c >= 0; c--) {
                boolean fits = true;
                if (web.open[web.order[web.knotFirsts[c]]]) {
                    fits = web.isRing(c) ? visitRing(c) : visitOne(web.order[web.knotFirsts[c]]);
                }
                if (!fits) {
                    return -3;
                }
            }
            solved = true;
            return 0;
        }

        /** The part becomes how often a run comes to a next of the state, for each one of its weight. */
        void unit(int k) {
            part.copy(visits[k]);
            int by = atlas.divisorOf(k);
            if (by > 1) {
                int shared = commonInt(by, part.top.rest(by));
                if (shared > 1) {
                    part.top.over(shared);
                }
                part.bottom.times(by / shared);
            }
        }

        private boolean comesIn(int back, int k) {
            int from = web.sources[back];
            return web.knotOf[from] != web.knotOf[k] && visits[from].sign != 0;
        }

        private boolean visitOne(int k) {
            int many = 0;
            int last = 0;
            for (int back = web.backFirsts[k]; back < web.backFirsts[k + 1]; back++) {
                if (comesIn(back, k)) {
                    many++;
                    last = back;
                }
            }
            if (many == 1 && k > 0) {
                int from = web.sources[last];
                visits[k].copy(visits[from]);
                visits[k].scale(atlas.weights[web.edges[last]], atlas.divisorOf(from));
                return visits[k].fits();
            }
            if (many == 0) {
                if (k == 0) {
                    visits[k].putOne();
                }
                return true;
            }
            whole.put(1);
            joinInflow(k);
            sumInflow(k);
            return keep(visits[k], sum, whole);
        }

        private void joinInflow(int k) {
            for (int back = web.backFirsts[k]; back < web.backFirsts[k + 1]; back++) {
                if (comesIn(back, k)) {
                    unit(web.sources[back]);
                    calc.join(whole, part.bottom);
                }
            }
        }

        private void sumInflow(int k) {
            sum.put(0);
            if (k == 0) {
                sum.copy(whole);
            }
            for (int back = web.backFirsts[k]; back < web.backFirsts[k + 1]; back++) {
                if (comesIn(back, k)) {
                    unit(web.sources[back]);
                    addTerm(atlas.weights[web.edges[back]]);
                }
            }
        }

        /** The part, so many times, is added to the sum, or (below 0) to what is less; the whole is a multiple of it. */
        void addTerm(long times) {
            factor.put(Math.abs(times));
            if (whole.compare(part.bottom) == 0) {
                term.product(part.top, factor);
            } else {
                calc.divide(whole, part.bottom);
                scaled.product(part.top, factor);
                term.product(scaled, calc.quotient);
            }
            if (times > 0) {
                sum.plus(term);
            } else {
                less.plus(term);
            }
        }

        /** Keeps above / below, which is not 0, in lowest terms; false if it has too many bits. */
        private boolean keep(Ratio where, Num above, Num below) {
            part.sign = 1;
            part.top.copy(above);
            part.bottom.copy(below);
            calc.reduce(part.top, part.bottom);
            return keepPart(where);
        }

        private boolean keepPart(Ratio where) {
            boolean fits = part.fits();
            if (fits) {
                where.copy(part);
            }
            return fits;
        }

        private Num cell(int row, int column) {
            if (cells.length == 0) {
                cells = new Num[MOST_RING * WIDTH];
            }
            int at = row * WIDTH + column;
            if (cells[at] == null) {
                cells[at] = new Num(CELL_LIMBS);
            }
            return cells[at];
        }

        /**
         * With u of a state its visits over its total, T u less what comes from the ring itself is what
         * comes from outside. Off its diagonal such a matrix stays at or below 0, on it above 0, in every
         * step: so the cells hold what they are without their signs.
         */
        private boolean visitRing(int c) {
            int from = web.knotFirsts[c];
            int many = web.sizeOf(c);
            whole.put(1);
            for (int r = 0; r < many; r++) {
                rows[web.order[from + r]] = r;
                joinInflow(web.order[from + r]);
            }
            boolean visited = false;
            for (int r = 0; r < many; r++) {
                sumInflow(web.order[from + r]);
                cell(r, MOST_RING).copy(sum);
                visited = visited || sum.length > 0;
                fillRow(web.order[from + r], r, many);
            }
            if (!visited) {
                return true;
            }
            for (int pivot = 0; pivot < many - 1; pivot++) {
                eliminate(pivot, many);
            }
            Num all = cell(many - 1, many - 1);
            putBack(many, all);
            less.product(all, whole);
            for (int r = 0; r < many; r++) {
                int k = web.order[from + r];
                sum.copy(cell(r, MOST_RING));
                sum.times(atlas.divisorOf(k));
                if (!keep(visits[k], sum, less)) {
                    return false;
                }
            }
            return true;
        }

        private void fillRow(int k, int row, int many) {
            for (int column = 0; column < many; column++) {
                cell(row, column).put(column == row ? atlas.divisorOf(k) : 0);
            }
            for (int back = web.backFirsts[k]; back < web.backFirsts[k + 1]; back++) {
                int source = web.sources[back];
                if (web.knotOf[source] == web.knotOf[k]) {
                    int weight = atlas.weights[web.edges[back]];
                    cell(row, rows[source]).put(source == k ? atlas.divisorOf(k) - weight : weight);
                }
            }
        }

        /** Bareiss's step: all stay whole numbers, for the pivot before divides each of them. */
        private void eliminate(int pivot, int many) {
            Num head = cell(pivot, pivot);
            for (int row = pivot + 1; row < many; row++) {
                Num factor = cell(row, pivot);
                for (int column = pivot + 1; column <= many; column++) {
                    int at = column < many ? column : MOST_RING;
                    Num here = cell(row, at);
                    Num above = cell(pivot, at);
                    boolean linked = factor.length > 0 && above.length > 0;
                    if (here.length == 0 && !linked) {
                        continue;
                    }
                    sum.product(head, here);
                    if (linked) {
                        term.product(factor, above);
                        if (at == row) {
                            sum.minus(term);
                        } else {
                            sum.plus(term);
                        }
                    }
                    shrink(here, pivot);
                }
            }
        }

        private void shrink(Num here, int pivot) {
            if (pivot == 0) {
                here.copy(sum);
            } else {
                calc.divide(sum, cell(pivot - 1, pivot - 1));
                here.copy(calc.quotient);
            }
        }

        /** The last column becomes what solves the equations, times what all is divided by in the end. */
        private void putBack(int many, Num all) {
            for (int row = many - 2; row >= 0; row--) {
                Num right = cell(row, MOST_RING);
                sum.product(all, right);
                for (int column = row + 1; column < many; column++) {
                    if (cell(row, column).length > 0) {
                        term.product(cell(row, column), cell(column, MOST_RING));
                        sum.plus(term);
                    }
                }
                calc.divide(sum, cell(row, row));
                right.copy(calc.quotient);
            }
        }

        /** Shows the gain (7), the visits of a state (8), or of all (9). */
        void showVisits(int kind, int v, Ratio out) {
            if (kind == 8) {
                out.copy(visits[v]);
                return;
            }
            whole.put(1);
            int states = atlas.states.total;
            for (int k = 0; k < states; k++) {
                if (visits[k].sign != 0 && (kind == 9 || atlas.gains[k] != 0)) {
                    calc.join(whole, visits[k].bottom);
                }
            }
            sum.put(0);
            less.put(0);
            for (int k = 0; k < states; k++) {
                long times = kind == 9 ? 1 : atlas.gains[k];
                if (visits[k].sign != 0 && times != 0) {
                    part.copy(visits[k]);
                    addTerm(times);
                }
            }
            settle(whole);
            out.copy(part);
        }

        /** The part becomes the sum without what is less, by what is below the line. */
        void settle(Num below) {
            int order = sum.compare(less);
            if (order == 0) {
                part.putZero();
                return;
            }
            part.sign = order;
            part.top.copy(order > 0 ? sum : less);
            part.top.minus(order > 0 ? less : sum);
            part.bottom.copy(below);
            calc.reduce(part.top, part.bottom);
        }

        int makePlan() {
            if (atlas.rings > 0) {
                return -2;
            }
            web.weave(atlas, false);
            web.knot();
            worths = fresh(worths, web.total);
            if (taken.length < web.total) {
                taken = new int[MOST_STATES];
            }
            for (int n = 0; n < web.total; n++) {
                int k = web.order[n];
                taken[k] = 0;
                boolean fits = atlas.chooses[k] || atlas.waysOf(k) == 1 ? findWorth(k) : mixWorths(k);
                if (!fits) {
                    return -3;
                }
            }
            System.arraycopy(taken, 0, atlas.plan, 0, web.total);
            planned = true;
            solved = false;
            return 0;
        }

        /** What stands behind a next is a state of known worth, or worth nothing. */
        private Ratio worthBehind(int at) {
            return atlas.sorts[at] == RUNS ? worths[atlas.numbers[at]] : null;
        }

        private boolean findWorth(int k) {
            int first = atlas.firsts[k];
            for (int n = 1; n < atlas.waysOf(k); n++) {
                if (isAbove(worthBehind(first + n), worthBehind(first + taken[k]))) {
                    taken[k] = n;
                }
            }
            Ratio behind = worthBehind(first + taken[k]);
            if (behind != null) {
                worths[k].copy(behind);
            }
            worths[k].addWhole(atlas.gains[k], term);
            return worths[k].fits();
        }

        private boolean isAbove(Ratio a, Ratio b) {
            int signA = a == null ? 0 : a.sign;
            int signB = b == null ? 0 : b.sign;
            if (signA != signB || a == null || b == null || signA == 0) {
                return signA > signB;
            }
            sum.product(a.top, b.bottom);
            less.product(b.top, a.bottom);
            return sum.compare(less) * signA > 0;
        }

        private boolean mixWorths(int k) {
            whole.put(1);
            for (int at = atlas.firsts[k]; at < atlas.firsts[k + 1]; at++) {
                Ratio behind = worthBehind(at);
                if (behind != null) {
                    calc.join(whole, behind.bottom);
                }
            }
            sum.put(0);
            less.put(0);
            for (int at = atlas.firsts[k]; at < atlas.firsts[k + 1]; at++) {
                Ratio behind = worthBehind(at);
                if (behind != null && behind.sign != 0) {
                    part.copy(behind);
                    addTerm((long) behind.sign * atlas.weights[at]);
                }
            }
            whole.times(atlas.totals[k]);
            settle(whole);
            return keepPart(worths[k]);
        }
    }

    /** What runs come to, by weight. Weights may be long: each is found when it is asked for, and none is kept. */
    private static final class Odds {
        /** Kinds of show(), and one more: what all endings weigh. */
        static final int KEPT = 6;
        static final int ENDED = 7;
        static final int MOST_GROUPS = 3 * MOST_ENDINGS;
        /** The shorter side of a table of 1000 cells. */
        static final int MOST_WIDE = 31;

        final Atlas atlas;
        final Solver solver;
        final Calc calc;
        final Num held;
        /** Endings that are alike in the third (a table of its own), there in the first, there in the second. */
        final Hoard groups;
        final int[] key;
        /** Of a table how many numbers the first and the second have in it, and where its cells begin. */
        int[] lefts;
        int[] rights;
        int[] bases;
        /** Of a group of the first or the second: its number in its table. */
        int[] ranks;
        /** The cell of each ending, NONE if no run comes to it. */
        int[] cellOf;
        /** The nexts that lead to a cell, in their order: the first of them, and which comes behind each. */
        int[] heads;
        int[] links;
        Num[] edges;

        Odds(Atlas atlas, Solver solver, Calc calc) {
            this.atlas = atlas;
            this.solver = solver;
            this.calc = calc;
            held = new Num(4);
            groups = new Hoard(MOST_GROUPS, 3, 8192);
            key = new int[3];
            lefts = new int[0];
            rights = new int[0];
            bases = new int[0];
            ranks = new int[0];
            cellOf = new int[0];
            heads = new int[0];
            links = new int[0];
            edges = new Num[0];
        }

        /** How often the weight of what a next leads to counts in what is asked. */
        private long share(int kind, int v, int sort, int number) {
            boolean ends = sort == ENDS;
            switch (kind) {
                case 0:
                    return ends && lastOf(number) == v ? 1 : 0;
                case 1:
                case 3:
                    return sort == FAILS && number == v ? 1 : 0;
                case 2:
                    return ends && number == v ? 1 : 0;
                case 4:
                    return sort == CUTS ? 1 : 0;
                case 5:
                    return sort != RUNS ? 1 : 0;
                case KEPT:
                    return ends || sort == FAILS ? 1 : 0;
                case ENDED:
                    return ends ? 1 : 0;
                default:
                    return ends ? lastOf(number) : 0;
            }
        }

        /** The number with which an ending ENDS. */
        private int lastOf(int e) {
            return atlas.endings.part(e, atlas.code.shared());
        }

        /** How many units of a state count in what is asked. */
        private long unitsOf(int k, int kind, int v) {
            long units = 0;
            if (solver.visits[k].sign != 0) {
                for (int at = atlas.firsts[k]; at < atlas.firsts[k + 1]; at++) {
                    if (atlas.isTaken(k, at)) {
                        units += share(kind, v, atlas.sorts[at], atlas.numbers[at]) * atlas.weights[at];
                    }
                }
            }
            return units;
        }

        /** Whether anything of a kind weighs. */
        boolean weighs(int kind) {
            int states = atlas.states.total;
            boolean found = states == 0;
            for (int k = 0; k < states && !found; k++) {
                found = unitsOf(k, kind, 0) != 0;
            }
            return found;
        }

        /** The solver's sum, and what is less, become what is asked, in parts of its whole. */
        private void weigh(int kind, int v) {
            int states = atlas.states.total;
            // A program without a state has one ending, of the weight 1.
            solver.sum.put(states == 0 ? share(kind, v, ENDS, 0) : 0);
            solver.less.put(0);
            for (int k = 0; k < states; k++) {
                long units = unitsOf(k, kind, v);
                if (units != 0) {
                    solver.unit(k);
                    solver.addTerm(units);
                }
            }
        }

        /** Shows kinds 0 to 6 and 10: some weights by all weights of another kind, or by themselves. */
        void showWeight(int kind, int v, Ratio out) {
            int all = kind <= 1 ? KEPT : kind == 10 ? ENDED : kind;
            solver.whole.put(1);
            for (int k = 0; k < atlas.states.total; k++) {
                if (unitsOf(k, all, v) != 0) {
                    solver.unit(k);
                    calc.join(solver.whole, solver.part.bottom);
                }
            }
            held.copy(solver.whole);
            if (all != kind) {
                weigh(all, v);
                held.copy(solver.sum);
            }
            weigh(kind, v);
            if (kind == 5) {
                solver.less.copy(solver.sum);
                solver.sum.copy(solver.whole);
            }
            solver.settle(held);
            out.copy(solver.part);
        }

        private void makeRows() {
            if (lefts.length == 0) {
                lefts = new int[MOST_GROUPS];
                rights = new int[MOST_GROUPS];
                bases = new int[MOST_GROUPS];
                ranks = new int[MOST_GROUPS];
                cellOf = new int[MOST_ENDINGS];
                heads = new int[MOST_ENDINGS];
                edges = new Num[MOST_WIDE];
            }
            if (links.length < atlas.nexts) {
                links = new int[Math.min(2 * atlas.nexts, MOST_NEXTS)];
            }
        }

        /**
         * The endings with one number of a third (with any, third NONE) are a table, with a row for each number of
         * the one of i and j and a column for each of the other. They are independent there if each cell weighs
         * something, which is told here, and all rows are multiples of the first one, which tablesAgree() tells.
         */
        boolean arrange(int i, int j, int third) {
            makeRows();
            groups.clear();
            int endings = markEndings();
            for (int e = 0; e < atlas.endings.total; e++) {
                if (cellOf[e] != NONE) {
                    int table = tableOf(e, third);
                    rankOf(1, table, atlas.endings.part(e, i), lefts);
                    rankOf(2, table, atlas.endings.part(e, j), rights);
                }
            }
            int cells = placeTables(endings);
            if (cells > endings) {
                return false;
            }
            for (int e = 0; e < atlas.endings.total; e++) {
                if (cellOf[e] != NONE) {
                    int table = tableOf(e, third);
                    int row = rankOf(1, table, atlas.endings.part(e, i), lefts);
                    int column = rankOf(2, table, atlas.endings.part(e, j), rights);
                    boolean tall = lefts[table] >= rights[table];
                    cellOf[e] = bases[table] + (tall ? row * rights[table] + column : column * lefts[table] + row);
                }
            }
            return linkCells(cells);
        }

        /** Tells the endings that runs come to: how many they are. */
        private int markEndings() {
            Arrays.fill(cellOf, NONE);
            int many = 0;
            for (int k = 0; k < atlas.states.total; k++) {
                for (int at = atlas.firsts[k]; at < atlas.firsts[k + 1]; at++) {
                    if (comesToEnd(k, at) && cellOf[atlas.numbers[at]] == NONE) {
                        cellOf[atlas.numbers[at]] = 0;
                        many++;
                    }
                }
            }
            return many;
        }

        private boolean comesToEnd(int k, int at) {
            return atlas.sorts[at] == ENDS && atlas.isTaken(k, at) && solver.visits[k].sign != 0;
        }

        private int group(int tag, int first, int second) {
            key[0] = tag;
            key[1] = first;
            key[2] = second;
            return Math.max(groups.enter(key, 3, MOST_GROUPS), 0);
        }

        private int tableOf(int e, int third) {
            int before = groups.total;
            int table = group(0, third == NONE ? 0 : atlas.endings.part(e, third), 0);
            if (table == before) {
                lefts[table] = 0;
                rights[table] = 0;
            }
            return table;
        }

        /** The number that a value has in its table, where it is counted if it is new. */
        private int rankOf(int tag, int table, int value, int[] counts) {
            int before = groups.total;
            int id = group(tag, table, value);
            if (id == before) {
                ranks[id] = counts[table];
                counts[table]++;
            }
            return ranks[id];
        }

        /** Gives each table its cells: how many there are, or more than the most if they are more. */
        private int placeTables(int most) {
            int cells = 0;
            for (int g = 0; g < groups.total && cells <= most; g++) {
                if (groups.part(g, 0) == 0) {
                    bases[g] = cells;
                    cells += lefts[g] * rights[g];
                }
            }
            return cells;
        }

        /** Links the nexts of each cell; false if there is a cell to which no run comes. */
        private boolean linkCells(int cells) {
            Arrays.fill(heads, NONE);
            for (int k = atlas.states.total - 1; k >= 0; k--) {
                for (int at = atlas.firsts[k + 1] - 1; at >= atlas.firsts[k]; at--) {
                    if (comesToEnd(k, at)) {
                        int cell = cellOf[atlas.numbers[at]];
                        links[at] = heads[cell];
                        heads[cell] = at;
                    }
                }
            }
            for (int c = 0; c < cells; c++) {
                if (heads[c] == NONE) {
                    return false;
                }
            }
            return true;
        }

        boolean tablesAgree() {
            for (int g = 0; g < groups.total; g++) {
                if (groups.part(g, 0) == 0) {
                    int wide = Math.min(lefts[g], rights[g]);
                    if (wide > 1 && !rowsAgree(bases[g], Math.max(lefts[g], rights[g]), wide)) {
                        return false;
                    }
                }
            }
            return true;
        }

        /** Whether all rows of a table are multiples of its first one, which alone is held: it is the shorter side. */
        private boolean rowsAgree(int base, int tall, int wide) {
            solver.whole.put(1);
            for (int c = base; c < base + tall * wide; c++) {
                throughCell(c, true);
            }
            for (int column = 0; column < wide; column++) {
                throughCell(base + column, false);
                edge(column).copy(solver.sum);
            }
            for (int row = 1; row < tall; row++) {
                int first = base + row * wide;
                throughCell(first, false);
                held.copy(solver.sum);
                for (int column = 1; column < wide; column++) {
                    throughCell(first + column, false);
                    solver.less.product(solver.sum, edge(0));
                    solver.term.product(held, edge(column));
                    if (solver.less.compare(solver.term) != 0) {
                        return false;
                    }
                }
            }
            return true;
        }

        private Num edge(int column) {
            if (edges[column] == null) {
                edges[column] = new Num(4);
            }
            return edges[column];
        }

        /** Goes through the states that lead to a cell: they join the solver's whole, or its sum becomes their weight. */
        private void throughCell(int cell, boolean joins) {
            solver.sum.put(0);
            int k = 0;
            int at = heads[cell];
            long units = 0;
            for (int n = 0; n < atlas.nexts && at != NONE; n++) {
                while (k + 1 < atlas.states.total && atlas.firsts[k + 1] <= at) {
                    k++;
                }
                units += atlas.weights[at];
                at = links[at];
                if (at == NONE || at >= atlas.firsts[k + 1]) {
                    solver.unit(k);
                    if (joins) {
                        calc.join(solver.whole, solver.part.bottom);
                    } else {
                        solver.addTerm(units);
                    }
                    units = 0;
                }
            }
        }
    }
}
