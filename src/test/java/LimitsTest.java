/**
 * The document's table of kinds, written out anew as text: each argument at its
 * edges and one beyond them, what is kept of it, and what is kept untold.
 */
public final class LimitsTest {
    private static final long ANY_LOW = Integer.MIN_VALUE;
    private static final long ANY_HIGH = Integer.MAX_VALUE;
    private static final int FAR = 1 << 20;
    private static final int DEEP = (1 << 24) - 1;

    /** A row a kind: how many are kept side by side, then low, high, untold of each argument. */
    private static final long[][] TABLE = {
        {0},
        {0, 0, 7, 0, ANY_LOW, ANY_HIGH, 0, 0, DEEP, 0, 0, 255, 0},
        {1, -1023, 1023, 0, -1023, 1023, 0, 1, 1024, 1, 1, 1024, 1, 0, DEEP, 0, 0, DEEP, DEEP},
        {1, ANY_LOW, ANY_HIGH, 0, ANY_LOW, ANY_HIGH, 0, ANY_LOW, ANY_HIGH, -1, ANY_LOW, ANY_HIGH, 0},
        {8, 0, 7, 0, 0, FAR, 0, 0, 1024, 0, 0, 4, 0, 0, 3, 0},
        {32, 0, 31, 0, ANY_LOW, ANY_HIGH, 0, ANY_LOW, ANY_HIGH, 0, ANY_LOW, ANY_HIGH, 0, ANY_LOW, ANY_HIGH, 0},
        {0, 0, 31, 0, 0, 32, 0, 0, FAR, 0},
        {1, 0, FAR, -1, 1, 256, 0},
        {1, 0, FAR, -1, 1, 256, 0},
        {4, 0, 3, 0, 0, FAR, 0, 0, 10, 0, 0, 10, 0, 1, 11, 1, 0, 7, 0},
        {1, -1, 7, -1, 0, 1, 0},
        {2, 0, 1, 0, -1, 7, -1, 0, 255, 0, 0, 255, 0, 0, 255, 0, 0, 7, 0, 0, 7, 0, 0, 7, 0},
        {1, 0, 14, 0, 0, 14, 0, 0, 14, 0, 0, 14, 0, -1, 4, -1, 0, 4, 0},
        {1, ANY_LOW, ANY_HIGH, 0},
        {1, -1, 15, -1},
        {1, 0, 15, 15},
        {1, 0, 3, 0, 0, 1, 0},
        {0, 0, 2, 0, 0, FAR, 0, 0, 4096, 0},
        {0, 0, 2, 0, 0, FAR, 0, 0, 4096, 0, 0, 2, 0, ANY_LOW, ANY_HIGH, 0},
        {0, 0, 7, 0, 0, 1, 0},
        {0, 0, 127, 0, 0, 127, 0, 1, 128, 0, 1, 128, 0, 0, FAR, 0, 0, 2, 0},
        {0, 0, FAR, 0, 0, 256, 0},
        {0},
        {0, 0, FAR, 0},
        {4, 0, 3, 0, 0, 3, 0, 0, 3, 0, 0, 3, 0},
        {4, 0, 3, 0, ANY_LOW, ANY_HIGH, 0, ANY_LOW, ANY_HIGH, 0, ANY_LOW, ANY_HIGH, 0, ANY_LOW, ANY_HIGH, 0},
    };

    public static void main(String[] args) {
        for (int kind = 0; kind < TABLE.length; kind++) {
            int many = (TABLE[kind].length - 1) / 3;
            for (int k = 0; k < many; k++) {
                edges(kind, many, k);
            }
            length(kind, many);
            untold(kind, many);
            noneSuch(kind, many);
        }
        Check.end();
    }

    private static long low(int kind, int k) {
        return TABLE[kind][1 + 3 * k];
    }

    private static long high(int kind, int k) {
        return TABLE[kind][2 + 3 * k];
    }

    /** The command with its other arguments at their lows, with words enough for any STORE. */
    private static DrawCommands with(int kind, int many, int k, int v) {
        DrawCommands x = new DrawCommands();
        Check.put(x, 7, 0, 1, 8, 0, 1, 19, 0, 1, 19, 0, 0, kind);
        for (int i = 0; i < many; i++) {
            x.put(i == k ? v : (int) low(kind, i));
        }
        for (int i = 0; i < 256 && kind == 21; i++) {
            x.put(i);
        }
        for (int i = 0; i < 4; i++) {
            x.next();
        }
        return x;
    }

    private static void edges(int kind, int many, int k) {
        String what = "kind " + kind + " argument " + k;
        if (low(kind, k) > ANY_LOW) {
            beyond(what, kind, many, k, (int) low(kind, k) - 1);
            beyond(what, kind, many, k, Integer.MIN_VALUE);
            beyond(what, kind, many, k, (int) high(kind, k) + 1);
            beyond(what, kind, many, k, Integer.MAX_VALUE);
        }
        within(what, kind, many, k, (int) low(kind, k));
        within(what, kind, many, k, (int) high(kind, k));
    }

    private static void beyond(String what, int kind, int many, int k, int v) {
        Check.refusal(what + " = " + v, with(kind, many, k, v), 3, 12, 0);
    }

    private static void within(String what, int kind, int many, int k, int v) {
        DrawCommands x = with(kind, many, k, v);
        int got = x.next();
        if (got == DrawCommands.NONE) {
            // an edge that is so as a value may still be no place, or not fit the state
            Check.same(what + " = " + v + " is refused as a place or a state", x.about(1) >= 5 ? 1 : 0, 1);
            Check.same(what + " = " + v + " may be refused", mayStillBeRefused(kind, v) ? 1 : 0, 1);
            return;
        }
        Check.same(what + " = " + v + " next()", got, kind);
        Check.same(what + " = " + v + " argument", x.argument(k), v);
        if (TABLE[kind][0] > 0) {
            int n = TABLE[kind][0] > 1 ? x.argument(0) : 0;
            Check.same(what + " = " + v + " kept", x.kept(kind, n, k), v);
        }
    }

    private static boolean mayStillBeRefused(int kind, int v) {
        boolean hasPlace = kind == 7 || kind == 8 || kind == 20 || kind == 23;
        return hasPlace && v > 1 || kind == 19;
    }

    /** A command has just so many words: one fewer is cut, and behind them the next one begins. */
    private static void length(int kind, int many) {
        DrawCommands x = new DrawCommands();
        Check.put(x, 7, 0, 1, 8, 0, 1, kind);
        for (int k = 0; k < many - 1; k++) {
            x.put((int) low(kind, k));
        }
        x.next();
        x.next();
        if (many > 0) {
            Check.refusal("kind " + kind + " cut", x, 1, 6, 0);
        }
        x.begin(true);
        if (many > 0) {
            x.put(kind == 19 ? 1 : (int) low(kind, many - 1));
        }
        for (int i = 0; i < 3; i++) {
            x.next();
        }
        Check.same("kind " + kind + " about(1)", x.about(1), 0);
        Check.same("kind " + kind + " about(2)", x.about(2), 6);
        for (int k = 0; k < many; k++) {
            int due = kind == 19 && k == 1 ? 1 : (int) low(kind, k);
            Check.same("kind " + kind + " argument " + k, x.argument(k), due);
        }
        Check.refused("kind " + kind + " argument " + many, Check.INDEX, () -> x.argument(many));
        Check.refused("kind " + kind + " argument -1", Check.INDEX, () -> x.argument(-1));
        if (kind != 0 && kind != 23) {
            Check.done("behind kind " + kind, x, 0);
            Check.same("behind kind " + kind, x.about(2), 7 + many);
        }
    }

    private static void untold(int kind, int many) {
        DrawCommands x = new DrawCommands();
        for (int n = 0; n < TABLE[kind][0]; n++) {
            for (int k = 0; k < many; k++) {
                long due = k == 0 && TABLE[kind][0] > 1 ? n : TABLE[kind][3 + 3 * k];
                Check.same("untold kept(" + kind + ", " + n + ", " + k + ")", x.kept(kind, n, k), due);
            }
        }
    }

    private static void noneSuch(int kind, int many) {
        DrawCommands x = new DrawCommands();
        int holders = (int) TABLE[kind][0];
        int[][] wrong = {{holders, 0}, {-1, 0}, {0, many}, {0, -1}, {Integer.MAX_VALUE, 0},
            {Integer.MIN_VALUE, 0}, {0, Integer.MAX_VALUE}, {0, Integer.MIN_VALUE}};
        for (int[] w : wrong) {
            Check.refused("kept(" + kind + ", " + w[0] + ", " + w[1] + ")", Check.ARGUMENT,
                () -> x.kept(kind, w[0], w[1]));
        }
        if (holders == 0) {
            Check.refused("kept(" + kind + ", 0, 0)", Check.ARGUMENT, () -> x.kept(kind, 0, 0));
        }
    }
}
