/** Each argument of each kind at its edges and one beyond them, in the stream and in a list; lengths; what is kept. */
public final class LimitsTest {
    private static final int LIST = 1000;

    public static void main(String[] args) {
        Check.sentence("They are (with what each may be; \"any\" is any word)");
        for (int kind = 0; kind < Table.KINDS; kind++) {
            for (int k = 0; k < Table.arguments(kind); k++) {
                edges(kind, k);
            }
        }
        Check.sentence("A COMMAND is a row of words: its KIND, then its ARGUMENTS.");
        for (int kind = 0; kind < Table.KINDS; kind++) {
            cut(kind);
            whole(kind);
        }
        Check.sentence("What was never told is 0, but ..");
        for (int kind = 0; kind < Table.KINDS; kind++) {
            untold(kind);
        }
        Check.sentence("IllegalArgumentException if there is no such kind, n or argument.");
        for (int kind = 0; kind < Table.KINDS; kind++) {
            noneSuch(kind);
        }
        Check.end();
    }

    /** An argument that leaves the others free: a QUERY begins, for to end it needs an open one. */
    private static int plain(int kind, int k) {
        return kind == 19 && k == 1 ? 1 : Table.least(kind, k);
    }

    private static int[] words(int kind, int k, int v) {
        int many = Table.arguments(kind);
        int[] row = new int[1 + many + (kind == 21 ? 256 : 0)];
        row[0] = kind;
        for (int i = 0; i < many; i++) {
            row[1 + i] = i == k ? v : plain(kind, i);
        }
        return row;
    }

    /** An object that has come to the words, in the stream or in a list, with programs and the greatest frame. */
    private static DrawCommands before(boolean inList, int... words) {
        DrawCommands x = Check.of(7, 0, 1, 8, 0, 1);
        x.frame(128, 128);
        if (inList) {
            Check.put(x, 23, LIST);
            Check.memory(x, LIST, words);
            x.next();
        } else {
            Check.put(x, words);
        }
        x.next();
        x.next();
        return x;
    }

    private static void edges(int kind, int k) {
        for (int i = 0; i <= 1; i++) {
            boolean inList = i == 1;
            if (!Table.isAny(kind, k)) {
                beyond(inList, kind, k, Table.least(kind, k) - 1);
                beyond(inList, kind, k, Integer.MIN_VALUE);
                beyond(inList, kind, k, Table.most(kind, k) + 1);
                beyond(inList, kind, k, Integer.MAX_VALUE);
            }
            within(inList, kind, k, Table.least(kind, k));
            within(inList, kind, k, Table.most(kind, k));
        }
    }

    private static void beyond(boolean inList, int kind, int k, int v) {
        DrawCommands x = before(inList, words(kind, k, v));
        Check.refusal("kind " + kind + " argument " + k + " = " + v, x, 3, inList ? LIST : 6, inList ? 1 : 0);
    }

    private static void within(boolean inList, int kind, int k, int v) {
        String what = "kind " + kind + " argument " + k + " = " + v;
        DrawCommands x = before(inList, words(kind, k, v));
        int number = refusalOfValue(kind, k, v);
        if (number != 0) {
            Check.refusal(what, x, number, inList ? LIST : 6, inList ? 1 : 0);
            return;
        }
        Check.doneAt(what, x, kind, inList ? LIST : 6, inList ? 1 : 0);
        Check.same(what + " argument", x.argument(k), v);
        if (Table.holders(kind) > 0) {
            Check.same(what + " kept", x.kept(kind, Table.holders(kind) > 1 ? x.argument(0) : 0, k), v);
        }
    }

    /** Some values may be, but are no place, or do not fit the state. */
    private static int refusalOfValue(int kind, int k, int v) {
        boolean beyondMemory = v == Table.FAR
            && ((kind == 7 || kind == 8 || kind == 23) && k == 0 || kind == 20 && k == 4);
        return beyondMemory ? 5 : kind == 19 && k == 1 && v == 0 ? 6 : 0;
    }

    private static int[] shortened(int kind, int many) {
        int[] row = new int[1 + many];
        row[0] = kind;
        for (int k = 0; k < many; k++) {
            row[1 + k] = plain(kind, k);
        }
        return row;
    }

    private static void cut(int kind) {
        for (int words = 0; words < Table.arguments(kind); words++) {
            Check.refusal("kind " + kind + " cut", before(false, shortened(kind, words)), 1, 6, 0);
            int[] row = shortened(kind, words);
            int place = 4096 - row.length;
            Check.refusal("kind " + kind + " cut by memory", Check.inList(place, row), 1, place, 1);
        }
    }

    private static void whole(int kind) {
        int many = Table.arguments(kind);
        DrawCommands x = before(false, shortened(kind, many));
        Check.doneAt("kind " + kind, x, kind, 6, 0);
        for (int k = 0; k < many; k++) {
            Check.same("kind " + kind + " argument " + k, x.argument(k), plain(kind, k));
        }
        for (int k : new int[] {many, -1, Integer.MAX_VALUE, Integer.MIN_VALUE}) {
            Check.refused("kind " + kind + " argument " + k, Check.INDEX, () -> x.argument(k));
        }
        if (kind != 0 && kind != 23) {
            Check.doneAt("behind kind " + kind, x, 0, 7 + many, 0);
        }
    }

    private static void untold(int kind) {
        DrawCommands x = new DrawCommands();
        for (int n = 0; n < Table.holders(kind); n++) {
            for (int k = 0; k < Table.arguments(kind); k++) {
                Check.same("untold kept(" + kind + ", " + n + ", " + k + ")", x.kept(kind, n, k),
                    Table.untold(kind, n, k));
            }
        }
    }

    private static void noneSuch(int kind) {
        DrawCommands x = new DrawCommands();
        int holders = Table.holders(kind);
        int many = Table.arguments(kind);
        int[][] wrong = {{holders, 0}, {-1, 0}, {0, many}, {0, -1}, {Integer.MAX_VALUE, 0}, {holders, many},
            {holders - 1, many}, {Integer.MIN_VALUE, 0}, {0, Integer.MAX_VALUE}, {0, Integer.MIN_VALUE}};
        for (int[] w : wrong) {
            Check.refused("kept(" + kind + ", " + w[0] + ", " + w[1] + ")", Check.ARGUMENT,
                () -> x.kept(kind, w[0], w[1]));
        }
        for (int k = 0; k < many && holders == 0; k++) {
            int argument = k;
            Check.refused("kept(" + kind + ", 0, " + k + ")", Check.ARGUMENT, () -> x.kept(kind, 0, argument));
        }
    }
}
