/** A command changes what it tells and nothing beside it, whatever came before. */
public final class OnlyItsOwnTest {
    /** Commands with arguments that would show in a wrong place. */
    private static final int[][] COMMANDS = {
        {0}, {1, 3, 2, 9, 4}, {2, 5, 2, 7, 8, 9, 10}, {3, -4, 3, 2, 11}, {4, 6, 3, 40, 3, 2},
        {5, 3, 2, 70, 71, 72}, {6, 4, 2, 500}, {7, 30, 2}, {8, 33, 3}, {9, 2, 2, 4, 5, 6, 7},
        {10, 5, 1}, {11, 1, 2, 33, 44, 55, 1, 2, 3}, {12, 1, 2, 3, 4, 2, 1}, {13, 99}, {14, 6},
        {15, 9}, {16, 2, 1}, {17, 1, 2, 3}, {18, 2, 2, 5, 1, -9}, {19, 3, 1}, {20, 1, 2, 3, 2, 700, 1},
        {21, 800, 3, 17, 18, 19}, {22}, {23, 900}, {24, 3, 2, 1, 3}, {25, 1, 2, -3, -4, -5}
    };

    /** Where a wrong writing would likely go: first words, what the commands name, the last words. */
    private static final int[] WATCHED = {0, 1, 2, 3, 4, 30, 33, 500, 501, 502, 503, 504, 505, 506, 507, 508,
        700, 701, 702, 703, 704, 705, 799, 800, 801, 802, 803, 900, 901, 4094, 4095};

    public static void main(String[] args) {
        Check.sentence("What a command told is KEPT, for each kind");
        for (int[] before : COMMANDS) {
            for (int[] then : COMMANDS) {
                if (before[0] != 0 && before[0] != 23) {
                    pair(before, then);
                }
            }
        }
        Check.end();
    }

    private static void pair(int[] before, int[] then) {
        Both x = new Both("kind " + then[0] + " behind kind " + before[0]);
        x.frame(9, 9);
        for (int place : WATCHED) {
            x.word(place, 61 + place);
        }
        x.word(900, 0);
        boolean ends = before[0] == 19 && then[0] == 19;
        int[][] commands = {{7, 0, 1}, {8, 0, 1}, before, ends ? new int[] {19, 3, 0} : then};
        for (int[] words : commands) {
            for (int v : words) {
                x.put(v);
            }
            x.next();
        }
        Check.same("kind " + then[0] + " is done", x.model().about(4), 4);
        for (int k = -1; k < then.length; k++) {
            x.argument(k);
        }
        x.lookAtAll();
        for (int place : WATCHED) {
            x.word(place, 0);
        }
        Check.same("all was looked at within the promised calls", x.has(1) ? 1 : 0, 1);
    }
}
