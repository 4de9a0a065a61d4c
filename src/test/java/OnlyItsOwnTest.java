import java.util.Arrays;

/** A command changes what it tells and nothing beside it, whatever came before. */
public final class OnlyItsOwnTest {
    /** Commands with arguments that would show in a wrong place. */
    private static final int[][] COMMANDS = {
        {0}, {1, 3, 2, 9, 4}, {2, 5, 2, 7, 8, 9, 10}, {3, -4, 3, 2, 11}, {4, 6, 3, 40, 3, 2},
        {5, 3, 2, 70, 71, 72}, {6, 4, 2, 500}, {7, 30, 2}, {8, 33, 3}, {9, 2, 2, 4, 5, 6, 7},
        {10, 5, 1}, {11, 1, 2, 33, 44, 55, 1, 2, 3}, {12, 1, 2, 3, 4, 2, 1}, {13, 99}, {14, 6},
        {15, 9}, {16, 2, 1}, {17, 1, 2, 3}, {18, 2, 2, 5, 1, -9}, {19, 3, 1}, {20, 1, 2, 3, 2, 700, 1},
        {21, 800, 3, 17, 18, 19}, {22}, {23, 900}, {24, 3, 2, 1, 3}, {25, 1, 2, -3, -4, -5}
    };

    public static void main(String[] args) {
        for (int[] before : COMMANDS) {
            for (int[] then : COMMANDS) {
                if (before[0] != 0 && before[0] != 23) {
                    pair(before, then);
                }
            }
        }
        Check.end();
    }

    private static void pair(int[] before, int[] then) {
        DrawCommands x = Check.of(7, 0, 1, 8, 0, 1);
        x.frame(9, 9);
        Check.memory(x, 500, 61, 62, 63, 64, 65, 66, 67, 68, 69);
        Check.put(x, before);
        for (int i = 0; i < 3; i++) {
            x.next();
        }
        String what = "kind " + then[0] + " behind kind " + before[0];
        boolean ends = before[0] == 19 && then[0] == 19;
        int[] words = ends ? new int[] {19, 3, 0} : then;
        Check.put(x, words);
        Snapshot due = Snapshot.of(x);
        Check.done(what, x, words[0]);
        tellInto(due, words);
        Check.same(what + " changes only its own", due.same(Snapshot.of(x)) ? 1 : 0, 1);
    }

    private static void tellInto(Snapshot due, int[] words) {
        int kind = words[0];
        if (kind == 6) {
            due.tell(5, 4, 4, 61, 62, 63, 64);
            due.tell(5, 5, 5, 65, 66, 67, 68);
        } else if (kind == 19) {
            due.open(words[2] == 1 ? words[1] : DrawCommands.NONE);
        } else if (kind == 21) {
            due.store(words[1], 17, 18, 19);
        } else if (Snapshot.HOLDERS[kind] > 0) {
            int n = Snapshot.HOLDERS[kind] > 1 ? words[1] : 0;
            due.tell(kind, n, Arrays.copyOfRange(words, 1, words.length));
        }
    }
}
