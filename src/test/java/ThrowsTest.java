/** "A call that throws changes nothing.": of two objects told the same, one is also called wrongly. */
public final class ThrowsTest {
    private static final int LEAST = Integer.MIN_VALUE;
    private static final int MOST = Integer.MAX_VALUE;
    private static final int STATES = 8;

    public static void main(String[] args) {
        Check.sentence("A call that throws changes nothing.");
        for (int state = 0; state < STATES; state++) {
            sameTold(state, calledWrongly(state), inState(state));
            sameRun(state, calledWrongly(state), inState(state));
            sameAnew(state, calledWrongly(state), inState(state));
        }
        Check.end();
    }

    /** New, in the stream, in a list, with a query open, over by END, over by a refusal, cleared, begun anew. */
    private static DrawCommands inState(int state) {
        DrawCommands x = Check.of(15, 6, 19, 2, 1, 3, 1, 2, 3, 4, 23, 60);
        x.frame(5, 4);
        Check.memory(x, 60, 20, 4, 3, 1, 1, 4095, 0, 14, 9, 23, 80, 0);
        Check.memory(x, 80, 25, 3, 5, 6, 7, 8, state == 5 ? 26 : 0);
        Check.memory(x, 4093, 1, 2, 3);
        int[] commands = {0, 1, 6, 3, 11, 9, 5, 2};
        for (int i = 0; i < commands[state]; i++) {
            x.next();
        }
        if (state == 6) {
            x.clear();
            Check.put(x, 3, 9, 8, 7, 6, 13, 5);
        } else if (state == 7) {
            x.begin(false);
        }
        Check.same("state " + state + " is over", x.about(0), state == 4 || state == 5 ? 1 : 0);
        return x;
    }

    private static DrawCommands calledWrongly(int state) {
        DrawCommands x = inState(state);
        for (int v : new int[] {-1, 4096, LEAST, MOST}) {
            Check.refused("word(" + v + ", 7)", Check.INDEX, () -> x.word(v, 7));
        }
        for (int v : new int[] {0, 129, LEAST, MOST}) {
            Check.refused("frame(" + v + ", 1)", Check.ARGUMENT, () -> x.frame(v, 1));
            Check.refused("frame(1, " + v + ")", Check.ARGUMENT, () -> x.frame(1, v));
        }
        for (int v : new int[] {-1, 99, LEAST, MOST}) {
            Check.refused("argument(" + v + ")", Check.INDEX, () -> x.argument(v));
            Check.refused("about(" + v + ")", Check.ARGUMENT, () -> x.about(v));
            Check.refused("kept(" + v + ", 0, 0)", Check.ARGUMENT, () -> x.kept(v, 0, 0));
            Check.refused("kept(5, " + v + ", 0)", Check.ARGUMENT, () -> x.kept(5, v, 0));
            Check.refused("kept(5, 0, " + v + ")", Check.ARGUMENT, () -> x.kept(5, 0, v));
        }
        if (x.about(0) == 1) {
            Check.refused("next()", Check.STATE, () -> x.next());
            Check.refused("next() again", Check.STATE, () -> x.next());
        }
        return x;
    }

    private static void sameTold(int state, DrawCommands x, DrawCommands y) {
        for (int kind = 0; kind < Table.KINDS; kind++) {
            for (int n = 0; n < Table.holders(kind); n++) {
                for (int k = 0; k < Table.arguments(kind); k++) {
                    Check.same("state " + state + " kept(" + kind + ", " + n + ", " + k + ")",
                        x.kept(kind, n, k), y.kept(kind, n, k));
                }
            }
        }
        for (int place : new int[] {0, 1, 7, 127, 128, 4093, 4094, 4095}) {
            Check.same("state " + state + " word " + place, x.word(place, 0), y.word(place, 0));
        }
    }

    private static void sameRun(int state, DrawCommands x, DrawCommands y) {
        for (int step = 0; step < 12; step++) {
            for (int what = 0; what < 7; what++) {
                Check.same("state " + state + " about(" + what + ")", x.about(what), y.about(what));
            }
            for (int k = 0; k < 6; k++) {
                Check.same("state " + state + " argument(" + k + ")", argument(x, k), argument(y, k));
            }
            if (y.about(0) == 1) {
                return;
            }
            Check.same("state " + state + " next()", x.next(), y.next());
        }
    }

    private static long argument(DrawCommands x, int k) {
        try {
            return x.argument(k);
        } catch (IndexOutOfBoundsException e) {
            return Long.MIN_VALUE;
        }
    }

    private static void sameAnew(int state, DrawCommands x, DrawCommands y) {
        Check.same("state " + state + " put", x.put(22), y.put(22));
        x.begin(true);
        y.begin(true);
        sameRun(state, x, y);
    }
}
