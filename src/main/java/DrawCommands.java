/**
 * A stream of commands for a drawing machine: it is gone through command by
 * command, lists of commands in memory are called, all that is told is kept,
 * and a command that cannot be is refused with a number and its place.
 */
public final class DrawCommands {
    /** There is none. */
    public static final int NONE = -1;

    private static final int MEMORY_WORDS = 4096;
    private static final int STREAM_WORDS = 4096;
    private static final int WIDEST_FRAME = 128;
    private static final int UNIFORM_COUNT = 32;
    private static final int WORDS_OF_UNIFORM = 4;
    private static final int WORDS_OF_STEP = 3;
    private static final int MOST_STORED = 256;
    private static final int DEEPEST_CALL = 4;
    private static final int MOST_DONE = 2000;

    private static final int FINE = 0;
    private static final int CUT = 1;
    private static final int KIND = 2;
    private static final int VALUE = 3;
    private static final int PLACE = 5;
    private static final int STATE = 6;
    private static final int LONG = 7;

    private static final int END = 0;
    private static final int UNIFORM = 5;
    private static final int UNIFORMS = 6;
    private static final int CORNERS_PROGRAM = 7;
    private static final int PLACES_PROGRAM = 8;
    private static final int DRAW = 17;
    private static final int DRAW_BY_INDEX = 18;
    private static final int QUERY = 19;
    private static final int COPY = 20;
    private static final int STORE = 21;
    private static final int CALL = 23;

    private final int[] memory;
    private final int[] stream;
    private final Told told;
    private final Command command;
    private final Run run;
    private int streamLength;
    private int frameWide;
    private int frameHigh;

    public DrawCommands() {
        memory = new int[MEMORY_WORDS];
        stream = new int[STREAM_WORDS];
        told = new Told();
        command = new Command();
        run = new Run();
        streamLength = 0;
        frameWide = 1;
        frameHigh = 1;
    }

    public int word(int place, int v) throws IndexOutOfBoundsException {
        if (place < 0 || place >= MEMORY_WORDS) {
            throw new IndexOutOfBoundsException("there is no such word of memory");
        }
        int before = read(memory, place);
        write(memory, place, v);
        return before;
    }

    public void frame(int wide, int high) throws IllegalArgumentException {
        if (wide < 1 || wide > WIDEST_FRAME || high < 1 || high > WIDEST_FRAME) {
            throw new IllegalArgumentException("a frame is 1 to 128 wide and high");
        }
        frameWide = wide;
        frameHigh = high;
    }

    public int put(int v) throws UnsupportedOperationException {
        if (streamLength >= STREAM_WORDS) {
            throw new UnsupportedOperationException("the stream is full");
        }
        write(stream, streamLength, v);
        streamLength++;
        return streamLength;
    }

    public void clear() {
        streamLength = 0;
        startAnew();
    }

    public void begin(boolean keeps) {
        if (!keeps) {
            told.forget();
        }
        startAnew();
    }

    public int next() throws IllegalStateException {
        if (run.over) {
            throw new IllegalStateException("the run is over");
        }
        run.arrive();
        int refusal = refusalHere();
        if (refusal != FINE) {
            command.forget();
            run.refuse(refusal);
            return NONE;
        }
        carryOut();
        return command.kind;
    }

    public int argument(int k) throws IndexOutOfBoundsException {
        if (k < 0 || k >= command.many) {
            throw new IndexOutOfBoundsException("there is no such argument");
        }
        return command.at(k);
    }

    public int kept(int kind, int n, int k) throws IllegalArgumentException {
        if (n < 0 || n >= Shape.holders(kind) || k < 0 || k >= Shape.fixed(kind)) {
            throw new IllegalArgumentException("nothing such is kept");
        }
        return told.at(kind, n, k);
    }

    public int about(int what) throws IllegalArgumentException {
        switch (what) {
            case 0: return run.over ? 1 : 0;
            case 1: return run.refusal;
            case 2: return run.lastPlace;
            case 3: return run.lastDepth;
            case 4: return run.done;
            case 5: return run.query;
            case 6: return streamLength;
            default: throw new IllegalArgumentException("nothing is told about that");
        }
    }

    private void startAnew() {
        command.forget();
        run.restart();
    }

    /** The number with which the command at the run's place is refused, the first that is so. */
    private int refusalHere() {
        if (run.done >= MOST_DONE) {
            return LONG;
        }
        int unreadable = readCommand();
        if (unreadable != FINE) {
            return unreadable;
        }
        if (!command.valuesMayBe()) {
            return VALUE;
        }
        if (!placesAreThere()) {
            return PLACE;
        }
        return stateAllows() ? FINE : STATE;
    }

    private int readCommand() {
        int length = sourceLength();
        if (run.place >= length) {
            return readBeyondTheEnd();
        }
        int kind = sourceWord(run.place);
        if (!Shape.isKind(kind)) {
            return KIND;
        }
        int many = argumentsHere(kind);
        if (run.place + many >= length) {
            return CUT;
        }
        command.become(kind, many);
        for (int k = 0; k < many; k++) {
            command.tell(k, sourceWord(run.place + 1 + k));
        }
        return FINE;
    }

    /** Only the stream may end without a word for it. */
    private int readBeyondTheEnd() {
        if (run.depth > 0) {
            return CUT;
        }
        command.become(END, 0);
        return FINE;
    }

    /** A STORE that is cut before its many counts as one without words: it is cut all the same. */
    private int argumentsHere(int kind) {
        int fixed = Shape.fixed(kind);
        if (kind != STORE || run.place + fixed >= sourceLength()) {
            return fixed;
        }
        int many = sourceWord(run.place + fixed);
        return fixed + Math.max(0, Math.min(MOST_STORED, many));
    }

    private int sourceLength() {
        return run.depth > 0 ? MEMORY_WORDS : streamLength;
    }

    private int sourceWord(int place) {
        return read(run.depth > 0 ? memory : stream, place);
    }

    /** Asked only of a command whose values may be, so no sum here can overflow. */
    private boolean placesAreThere() {
        switch (command.kind) {
            case UNIFORMS:
                return command.at(0) + command.at(1) <= UNIFORM_COUNT
                    && inMemory(command.at(2), WORDS_OF_UNIFORM * command.at(1));
            case CORNERS_PROGRAM:
            case PLACES_PROGRAM:
                return inMemory(command.at(0), WORDS_OF_STEP * command.at(1));
            case COPY:
                return command.at(0) + command.at(2) <= frameWide
                    && command.at(1) + command.at(3) <= frameHigh
                    && inMemory(command.at(4), command.at(2) * command.at(3));
            case STORE:
                return inMemory(command.at(0), command.at(1));
            case CALL:
                return inMemory(command.at(0), 1);
            default:
                return true;
        }
    }

    /** No words at all are nowhere outside memory, wherever they would begin. */
    private static boolean inMemory(int from, int many) {
        return many == 0 || from + many <= MEMORY_WORDS;
    }

    private boolean stateAllows() {
        switch (command.kind) {
            case DRAW:
            case DRAW_BY_INDEX:
                return told.hasProgram(CORNERS_PROGRAM) && told.hasProgram(PLACES_PROGRAM);
            case QUERY:
                return run.query == (command.at(1) == 1 ? NONE : command.at(0));
            case CALL:
                return run.depth < DEEPEST_CALL;
            default:
                return true;
        }
    }

    private void carryOut() {
        run.passOver(command.many);
        switch (command.kind) {
            case END:
                run.leave();
                break;
            case UNIFORMS:
                keepUniforms();
                break;
            case QUERY:
                run.query = command.at(1) == 1 ? command.at(0) : NONE;
                break;
            case STORE:
                storeWords();
                break;
            case CALL:
                run.enter(command.at(0));
                break;
            default:
                told.keep(command);
                break;
        }
    }

    /** Argument 0 of a uniform is its own n, told or untold, so it needs no writing. */
    private void keepUniforms() {
        int many = command.at(1);
        for (int i = 0; i < many; i++) {
            int n = command.at(0) + i;
            int from = command.at(2) + WORDS_OF_UNIFORM * i;
            for (int k = 0; k < WORDS_OF_UNIFORM; k++) {
                told.set(UNIFORM, n, k + 1, read(memory, from + k));
            }
        }
    }

    private void storeWords() {
        int many = command.at(1);
        for (int i = 0; i < many; i++) {
            write(memory, command.at(0) + i, command.at(2 + i));
        }
    }

    private static int read(int[] row, int place) {
        return place >= 0 && place < row.length ? row[place] : 0;
    }

    private static void write(int[] row, int place, int v) {
        if (place >= 0 && place < row.length) {
            row[place] = v;
        }
    }

    /** What the document's table says of each kind. */
    private static final class Shape {
        private static final int KINDS = 26;
        private static final int LEAST = -2147483648;
        private static final int MOST = 2147483647;
        private static final int FAR = 1048576;
        private static final int DEEP = 16777215;
        private static final int COLUMNS = 3;

        /** Where a kind's arguments begin in ARGUMENTS; the next kind's begin behind its last. */
        private static final int[] FIRST = {
            0, 0, 4, 10, 14, 19, 24, 27, 29, 31, 37, 39, 47, 53,
            54, 55, 56, 58, 61, 66, 68, 74, 76, 76, 77, 81, 86
        };

        /** How many of a kind are kept side by side. */
        private static final int[] HOLDERS = {
            0, 0, 1, 1, 8, 32, 0, 1, 1, 4, 1, 2, 1,
            1, 1, 1, 1, 0, 0, 0, 0, 0, 0, 0, 4, 4
        };

        /** Of each argument: the least and the most that it may be, and what is kept untold. */
        private static final int[] ARGUMENTS = {
            // 1 CLEAR what, colour, depth, stencil
            0, 7, 0, LEAST, MOST, 0, 0, DEEP, 0, 0, 255, 0,
            // 2 VIEW x, y, wide, high, near, far
            -1023, 1023, 0, -1023, 1023, 0, 1, 1024, 1, 1, 1024, 1, 0, DEEP, 0, 0, DEEP, DEEP,
            // 3 SCISSORS x0, y0, x1, y1
            LEAST, MOST, 0, LEAST, MOST, 0, LEAST, MOST, -1, LEAST, MOST, 0,
            // 4 ATTRIBUTE n, from, step, parts, type
            0, 7, 0, 0, FAR, 0, 0, 1024, 0, 0, 4, 0, 0, 3, 0,
            // 5 UNIFORM n, x, y, z, w
            0, 31, 0, LEAST, MOST, 0, LEAST, MOST, 0, LEAST, MOST, 0, LEAST, MOST, 0,
            // 6 UNIFORMS n, many, from
            0, 31, 0, 0, 32, 0, 0, FAR, 0,
            // 7 CORNERS' PROGRAM from, many
            0, FAR, -1, 1, 256, 0,
            // 8 PLACES' PROGRAM from, many
            0, FAR, -1, 1, 256, 0,
            // 9 TEXTURE unit, from, two logarithms, levels, format
            0, 3, 0, 0, FAR, 0, 0, 10, 0, 0, 10, 0, 1, 11, 1, 0, 7, 0,
            // 10 DEPTH test, written
            -1, 7, -1, 0, 1, 0,
            // 11 STENCIL side, test, value, mask, written, three deeds
            0, 1, 0, -1, 7, -1, 0, 255, 0, 0, 255, 0, 0, 255, 0, 0, 7, 0, 0, 7, 0, 0, 7, 0,
            // 12 BLEND four factors, two equations
            0, 14, 0, 0, 14, 0, 0, 14, 0, 0, 14, 0, -1, 4, -1, 0, 4, 0,
            // 13 CONSTANT colour
            LEAST, MOST, 0,
            // 14 LOGIC
            -1, 15, -1,
            // 15 MASK
            0, 15, 15,
            // 16 FACES out, clock
            0, 3, 0, 0, 1, 0,
            // 17 DRAW mode, first, many
            0, 2, 0, 0, FAR, 0, 0, 4096, 0,
            // 18 DRAW BY INDEX mode, from, many, type, base
            0, 2, 0, 0, FAR, 0, 0, 4096, 0, 0, 2, 0, LEAST, MOST, 0,
            // 19 QUERY n, begins
            0, 7, 0, 0, 1, 0,
            // 20 COPY x, y, wide, high, to, what
            0, 127, 0, 0, 127, 0, 1, 128, 0, 1, 128, 0, 0, FAR, 0, 0, 2, 0,
            // 21 STORE to, many (its words may be any)
            0, FAR, 0, 0, MOST_STORED, 0,
            // 23 CALL from
            0, FAR, 0,
            // 24 MANNER unit, across, down, filter
            0, 3, 0, 0, 3, 0, 0, 3, 0, 0, 3, 0,
            // 25 BORDER unit, r, g, b, a
            0, 3, 0, LEAST, MOST, 0, LEAST, MOST, 0, LEAST, MOST, 0, LEAST, MOST, 0
        };

        static boolean isKind(int kind) {
            return kind >= 0 && kind < KINDS;
        }

        /** How many arguments a kind always has. */
        static int fixed(int kind) {
            return isKind(kind) ? read(FIRST, kind + 1) - read(FIRST, kind) : 0;
        }

        static int holders(int kind) {
            return read(HOLDERS, kind);
        }

        static boolean mayBe(int kind, int k, int v) {
            return v >= column(kind, k, 0) && v <= column(kind, k, 1);
        }

        static int untold(int kind, int k) {
            return column(kind, k, 2);
        }

        private static int column(int kind, int k, int column) {
            return read(ARGUMENTS, COLUMNS * (read(FIRST, kind) + k) + column);
        }
    }

    /** The command that came last; its words are copied, for memory may change behind it. */
    private static final class Command {
        private final int[] words;
        private int kind;
        private int many;

        Command() {
            words = new int[2 + MOST_STORED];
            kind = END;
            many = 0;
        }

        void forget() {
            become(END, 0);
        }

        void become(int newKind, int newMany) {
            kind = newKind;
            many = newMany;
        }

        void tell(int k, int v) {
            write(words, k, v);
        }

        int at(int k) {
            return read(words, k);
        }

        boolean valuesMayBe() {
            int fixed = Shape.fixed(kind);
            for (int k = 0; k < fixed; k++) {
                if (!Shape.mayBe(kind, k, at(k))) {
                    return false;
                }
            }
            return true;
        }
    }

    /** What was told last, by kind, holder (attribute, uniform, unit or side) and argument. */
    private static final class Told {
        private final int[] starts;
        private final int[] words;

        Told() {
            starts = new int[Shape.KINDS];
            int length = 0;
            for (int kind = 0; kind < Shape.KINDS; kind++) {
                write(starts, kind, length);
                length += Shape.holders(kind) * Shape.fixed(kind);
            }
            words = new int[Math.max(0, length)];
            forget();
        }

        void forget() {
            for (int kind = 0; kind < Shape.KINDS; kind++) {
                int holders = Shape.holders(kind);
                for (int n = 0; n < holders; n++) {
                    forgetOne(kind, n);
                }
            }
        }

        private void forgetOne(int kind, int n) {
            int start = placeOf(kind, n, 0);
            int fixed = Shape.fixed(kind);
            for (int k = 0; k < fixed; k++) {
                write(words, start + k, Shape.untold(kind, k));
            }
            if (namesItsHolder(kind)) {
                write(words, start, n);
            }
        }

        void keep(Command command) {
            int kind = command.kind;
            if (Shape.holders(kind) == 0) {
                return;
            }
            int start = placeOf(kind, namesItsHolder(kind) ? command.at(0) : 0, 0);
            for (int k = 0; k < command.many; k++) {
                write(words, start + k, command.at(k));
            }
        }

        int at(int kind, int n, int k) {
            return read(words, placeOf(kind, n, k));
        }

        void set(int kind, int n, int k, int v) {
            write(words, placeOf(kind, n, k), v);
        }

        /** A program that was told begins at 0 or behind it. */
        boolean hasProgram(int kind) {
            return at(kind, 0, 0) != NONE;
        }

        /** Where several are kept side by side, argument 0 says which one is meant. */
        private static boolean namesItsHolder(int kind) {
            return Shape.holders(kind) > 1;
        }

        private int placeOf(int kind, int n, int k) {
            return read(starts, kind) + n * Shape.fixed(kind) + k;
        }
    }

    /** Where the going on stands, and what became of it. */
    private static final class Run {
        private final int[] backs;
        private int place;
        private int depth;
        private int lastPlace;
        private int lastDepth;
        private int done;
        private int refusal;
        private int query;
        private boolean over;

        Run() {
            backs = new int[DEEPEST_CALL];
            restart();
        }

        void restart() {
            place = 0;
            depth = 0;
            lastPlace = NONE;
            lastDepth = NONE;
            done = 0;
            refusal = FINE;
            query = NONE;
            over = false;
        }

        void arrive() {
            lastPlace = place;
            lastDepth = depth;
        }

        void refuse(int number) {
            refusal = number;
            over = true;
        }

        void passOver(int many) {
            place += 1 + many;
            done++;
        }

        void enter(int from) {
            write(backs, depth, place);
            depth++;
            place = from;
        }

        void leave() {
            if (depth == 0) {
                over = true;
                return;
            }
            depth--;
            place = read(backs, depth);
        }
    }
}
