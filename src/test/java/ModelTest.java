/** Rows of calls that nobody thought of, near the document's edges, held against the model. */
public final class ModelTest {
    private static final int[] ODD = {0, 1, 2, -1, -2, 3, 4, 7, 8, 31, 32, 127, 128, 129, 255, 256, 257,
        4095, 4096, Table.FAR, Table.FAR + 1, Integer.MAX_VALUE, Integer.MIN_VALUE};

    /** Where lists begin; the last ones run against memory's end. */
    private static final int[] LISTS = {0, 60, 120, 180, 4060, 4085, 4093, 4095};

    private static long seed = 20261116L;

    public static void main(String[] args) {
        for (int run = 0; run < 6000; run++) {
            oneRun(new Both("run " + run), run % 4 == 0);
        }
        Check.end();
    }

    /** The same numbers in every run of the test. */
    private static int below(int bound) {
        seed = seed * 6364136223846793005L + 1442695040888963407L;
        return (int) ((seed >>> 33) % bound);
    }

    private static boolean once(int outOf) {
        return below(outOf) == 0;
    }

    private static int odd() {
        return ODD[below(ODD.length)];
    }

    private static void oneRun(Both x, boolean looksAtAll) {
        int kept = looksAtAll ? 310 : 0;
        if (!once(3)) {
            x.frame(1 + below(12), 1 + below(12));
        }
        for (int i = below(4); i > 0; i--) {
            list(x);
        }
        tellInStream(x, 2 + below(6));
        while (x.has(kept + 40)) {
            step(x);
        }
        if (looksAtAll) {
            x.lookAtAll();
        }
    }

    private static void step(Both x) {
        if (x.model().about(0) == 1 && !once(4)) {
            anew(x);
            return;
        }
        switch (below(16)) {
            case 0: tellInStream(x, 1); break;
            case 1: x.word(once(3) ? odd() : below(200), once(3) ? odd() : below(26)); break;
            case 2: x.frame(once(3) ? odd() : 1 + below(12), once(3) ? odd() : 1 + below(12)); break;
            case 3: x.argument(once(3) ? odd() : below(9)); break;
            case 4: x.about(once(4) ? odd() : below(9) - 1); break;
            case 5: lookAtKept(x); break;
            case 6:
                if (once(8)) {
                    anew(x);
                }
                break;
            default: goOn(x); break;
        }
    }

    private static void anew(Both x) {
        if (once(3)) {
            x.clear();
            tellInStream(x, 1 + below(4));
        } else {
            x.begin(!once(3));
        }
        x.about(below(7));
        x.argument(0);
    }

    private static void lookAtKept(Both x) {
        if (once(3)) {
            x.kept(once(2) ? odd() : below(28) - 1, once(2) ? odd() : 0, once(2) ? odd() : 0);
            return;
        }
        int kind = below(Table.KINDS);
        x.kept(kind, below(Table.holders(kind) + 1), below(Table.arguments(kind) + 1));
    }

    private static void goOn(Both x) {
        x.next();
        for (int what = 0; what < 6; what++) {
            x.about(what);
        }
        x.argument(below(4));
    }

    private static void tellInStream(Both x, int many) {
        for (int i = 0; i < many; i++) {
            for (int v : command()) {
                x.put(v);
            }
        }
    }

    private static void list(Both x) {
        int place = LISTS[below(LISTS.length)];
        for (int i = 1 + below(4); i > 0; i--) {
            for (int v : command()) {
                x.word(place++, v);
                if (place > 4095) {
                    return;
                }
            }
        }
    }

    /** A command that mostly may be; now and then one argument is just beyond its edge. */
    private static int[] command() {
        int kind = once(40) ? odd() : once(4) ? 7 + below(2) : once(5) ? 23 : once(6) ? 19 : below(Table.KINDS);
        if (!Table.isKind(kind)) {
            return new int[] {kind};
        }
        int many = Table.arguments(kind);
        int[] words = new int[1 + many];
        words[0] = kind;
        for (int k = 0; k < many; k++) {
            words[1 + k] = argument(kind, k);
        }
        nearThePlaces(words);
        if (many > 0 && once(12)) {
            int k = below(many);
            words[1 + k] = once(2) ? Table.least(kind, k) - 1 : Table.most(kind, k) + 1;
        }
        return kind == 21 ? withItsWords(words) : words;
    }

    private static int argument(int kind, int k) {
        int least = Table.least(kind, k);
        int most = Table.most(kind, k);
        if (once(4)) {
            return once(2) ? least : most;
        }
        return Table.isAny(kind, k) ? odd() : least + below(Math.min(40, most - least + 1));
    }

    /** Arguments that hang together are put at the edge of what there is, or one beside it. */
    private static void nearThePlaces(int[] words) {
        int off = once(5) ? 1 : -below(3);
        switch (words[0]) {
            case 6:
                words[2] = once(2) ? below(4) : Math.max(0, Math.min(32, 32 - words[1] + off));
                words[3] = once(2) ? below(200) : 4096 - 4 * words[2] + off;
                break;
            case 7:
            case 8:
                words[1] = once(2) ? below(100) : 4096 - 3 * words[2] + off;
                break;
            case 20:
                words[1] = below(6);
                words[2] = below(6);
                words[3] = 1 + below(6);
                words[4] = 1 + below(6);
                words[5] = 4096 - words[3] * words[4] + off;
                break;
            case 21:
                words[2] = below(5);
                words[1] = once(3) ? below(200) : once(2) ? LISTS[below(4)] + below(16) : 4096 - words[2] + off;
                break;
            case 23:
                words[1] = once(12) ? 4096 : LISTS[below(LISTS.length)];
                break;
            default:
                break;
        }
    }

    private static int[] withItsWords(int[] words) {
        int many = Math.max(0, Math.min(6, words[2]));
        int[] all = java.util.Arrays.copyOf(words, 3 + many);
        for (int i = 0; i < many; i++) {
            all[3 + i] = once(2) ? odd() : below(26);
        }
        return all;
    }
}
