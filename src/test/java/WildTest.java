import java.util.Arrays;

/**
 * Long rows of odd calls: nothing is thrown but what the document names, a call
 * that throws changes nothing, and what about() tells hangs together.
 */
public final class WildTest {
    private static final int[] ODD = {0, 1, 2, -1, 3, 4, 7, 8, 11, 15, 16, 31, 32, 33, 127, 128, 129, 255,
        256, 257, 1023, 1024, 1025, 4000, 4093, 4094, 4095, 4096, 4097, 1 << 20, (1 << 20) + 1, (1 << 24) - 1,
        1 << 24, Integer.MAX_VALUE, Integer.MIN_VALUE, Integer.MIN_VALUE + 1, Integer.MAX_VALUE - 1};

    private static long seed = 20261115L;

    public static void main(String[] args) {
        for (int run = 0; run < 1500; run++) {
            wildRun(run);
        }
        Check.end();
    }

    /** The same numbers in every run of the test. */
    private static int below(int bound) {
        seed = seed * 6364136223846793005L + 1442695040888963407L;
        return (int) ((seed >>> 33) % bound);
    }

    private static int odd() {
        return below(3) == 0 ? below(40) - 4 : ODD[below(ODD.length)];
    }

    private static int likelyKind() {
        return below(12) == 0 ? odd() : below(26);
    }

    private static void wildRun(int run) {
        DrawCommands x = new DrawCommands();
        int[] before = seen(x);
        for (int call = 0; call < 200; call++) {
            int kind = below(10);
            boolean threw = wildCall(run, x, kind);
            int[] after = seen(x);
            if (threw) {
                Check.same("run " + run + ": a call that throws changes nothing", Arrays.equals(before, after) ? 1 : 0, 1);
            }
            hangsTogether(run, x);
            before = after;
        }
    }

    private static boolean wildCall(int run, DrawCommands x, int kind) {
        try {
            switch (kind) {
                case 0: x.word(odd(), odd()); break;
                case 1: x.frame(odd(), odd()); break;
                case 2: command(x); break;
                case 3: list(x); break;
                case 4: x.argument(odd()); break;
                case 5: x.kept(odd(), odd(), odd()); break;
                case 6: x.about(odd()); break;
                case 7: anew(x); break;
                default: goOn(run, x); break;
            }
            return false;
        } catch (RuntimeException e) {
            Check.same("run " + run + ": call " + kind + " throws " + e, named(kind) == e.getClass() ? 1 : 0, 1);
            return true;
        }
    }

    private static Class<?> named(int kind) {
        switch (kind) {
            case 0:
            case 4: return IndexOutOfBoundsException.class;
            case 1:
            case 5:
            case 6: return IllegalArgumentException.class;
            case 2: return UnsupportedOperationException.class;
            case 3:
            case 7: return null;
            default: return IllegalStateException.class;
        }
    }

    private static void command(DrawCommands x) {
        int kind = likelyKind();
        x.put(kind);
        int many = kind >= 0 && kind < 26 ? Snapshot.ARGUMENTS[kind] : 1;
        for (int k = 0; k < many; k++) {
            x.put(below(2) == 0 ? below(3) : odd());
        }
    }

    private static void list(DrawCommands x) {
        int from = below(2) == 0 ? below(40) : 4080 + below(16);
        for (int place = from; place < from + 12 && place < 4096; place++) {
            x.word(place, below(2) == 0 ? likelyKind() : odd());
        }
    }

    private static void anew(DrawCommands x) {
        if (below(4) == 0) {
            x.clear();
        } else {
            x.begin(below(2) == 0);
        }
    }

    private static void goOn(int run, DrawCommands x) {
        int done = x.about(4);
        int got = x.next();
        boolean refused = got == DrawCommands.NONE;
        Check.same("run " + run + ": done", x.about(4), refused ? done : done + 1);
        Check.same("run " + run + ": refused", x.about(1) != 0 ? 1 : 0, refused ? 1 : 0);
        if (!refused) {
            Check.same("run " + run + ": a kind", got >= 0 && got < 26 ? 1 : 0, 1);
            int many = Snapshot.ARGUMENTS[got] + (got == 21 ? x.argument(1) : 0);
            for (int k = 0; k < many; k++) {
                x.argument(k);
            }
        }
    }

    private static void hangsTogether(int run, DrawCommands x) {
        boolean fits = x.about(0) >= 0 && x.about(0) <= 1
            && (x.about(1) == 0 || x.about(0) == 1)
            && x.about(2) >= -1 && x.about(2) <= 4096
            && x.about(3) >= -1 && x.about(3) <= 4
            && (x.about(2) == -1) == (x.about(3) == -1)
            && x.about(5) >= -1 && x.about(5) <= 7
            && x.about(6) >= 0 && x.about(6) <= 4096;
        Check.same("run " + run + ": about() hangs together", fits ? 1 : 0, 1);
    }

    private static int[] seen(DrawCommands x) {
        int[] row = new int[600];
        int at = 0;
        for (int what = 0; what < 7; what++) {
            row[at++] = x.about(what);
        }
        for (int kind = 0; kind < 26; kind++) {
            for (int n = 0; n < Snapshot.HOLDERS[kind]; n++) {
                for (int k = 0; k < Snapshot.ARGUMENTS[kind]; k++) {
                    row[at++] = x.kept(kind, n, k);
                }
            }
        }
        return row;
    }
}
