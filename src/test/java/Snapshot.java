import java.util.Arrays;

/** All that can be seen of an object but its arguments and the run's place: the kept words, memory, the query. */
final class Snapshot {
    static final int[] HOLDERS = {0, 0, 1, 1, 8, 32, 0, 1, 1, 4, 1, 2, 1, 1, 1, 1, 1, 0, 0, 0, 0, 0, 0, 0, 4, 4};
    static final int[] ARGUMENTS = {0, 4, 6, 4, 5, 5, 3, 2, 2, 6, 2, 8, 6, 1, 1, 1, 2, 3, 5, 2, 6, 2, 0, 1, 4, 5};

    private final int[] memory = new int[4096];
    private final int[][][] told = new int[26][][];
    private int query;

    static Snapshot of(DrawCommands x) {
        Snapshot s = new Snapshot();
        for (int place = 0; place < 4096; place++) {
            s.memory[place] = x.word(place, 0);
            x.word(place, s.memory[place]);
        }
        for (int kind = 0; kind < 26; kind++) {
            s.told[kind] = new int[HOLDERS[kind]][ARGUMENTS[kind]];
            for (int n = 0; n < HOLDERS[kind]; n++) {
                for (int k = 0; k < ARGUMENTS[kind]; k++) {
                    s.told[kind][n][k] = x.kept(kind, n, k);
                }
            }
        }
        s.query = x.about(5);
        return s;
    }

    void tell(int kind, int n, int... words) {
        told[kind][n] = words;
    }

    void store(int to, int... words) {
        System.arraycopy(words, 0, memory, to, words.length);
    }

    void open(int n) {
        query = n;
    }

    boolean same(Snapshot other) {
        return query == other.query && Arrays.equals(memory, other.memory) && Arrays.deepEquals(told, other.told);
    }
}
