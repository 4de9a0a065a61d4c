/** Promises 1 to 10, one method each, in it each sentence that names an edge; no object is called over 512 times. */
public final class PromisesTest {
    private static final int LEAST = Integer.MIN_VALUE;
    private static final int MOST = Integer.MAX_VALUE;

    public static void main(String[] args) {
        newObject();
        word();
        frame();
        put();
        clear();
        begin();
        next();
        nextWhenOver();
        argument();
        noArgument();
        kept();
        keptUntold();
        nothingSuchKept();
        about();
        aboutPlaces();
        aboutAnother();
        Check.end();
    }

    private static void newObject() {
        Check.sentence("Memory is 0; a frame of 1 by 1; an empty stream, at its beginning. Nothing was told");
        for (int from = 0; from < 4096; from += 512) {
            DrawCommands m = new DrawCommands();
            for (int place = from; place < from + 512; place++) {
                Check.same("word " + place, m.word(place, 9), 0);
            }
        }
        DrawCommands x = new DrawCommands();
        Check.abouts("new", x, 0, 0, -1, -1, 0, -1, 0);
        Check.refused("argument(0)", Check.INDEX, () -> x.argument(0));
        Check.put(x, 20, 0, 0, 1, 1, 0, 0, 20, 0, 0, 1, 2, 0, 0);
        Check.doneAt("a frame of 1 by 1", x, 20, 0, 0);
        Check.refusal("no higher", x, 5, 7, 0);
        DrawCommands y = Check.of(20, 0, 0, 2, 1, 0, 0);
        Check.refusal("no wider", y, 5, 0, 0);
        DrawCommands z = new DrawCommands();
        Check.doneAt("an empty stream", z, 0, 0, 0);
        Check.refusal("no program was told", Check.of(17, 0, 0, 0), 6, 0, 0);
        DrawCommands other = Check.of(15, 3);
        other.next();
        other.word(8, 8);
        DrawCommands fresh = new DrawCommands();
        Check.kept(fresh, 15, 0, 15);
        Check.same("memory of its own", fresh.word(8, 0), 0);
        Check.same("a stream of its own", fresh.about(6), 0);
    }

    private static void word() {
        Check.sentence("A word of memory becomes v: what it was.");
        DrawCommands x = new DrawCommands();
        for (int place : new int[] {0, 1, 4094, 4095}) {
            Check.same("word " + place, x.word(place, place + 7), 0);
            Check.same("word " + place, x.word(place, LEAST), place + 7);
            Check.same("word " + place, x.word(place, MOST), LEAST);
            Check.same("word " + place, x.word(place, 3), MOST);
        }
        Check.same("a word beside", x.word(2, 0), 0);
        Check.same("a word beside", x.word(4093, 0), 0);
        Check.sentence("IndexOutOfBoundsException if there is none such.");
        for (int place : new int[] {-1, 4096, 4097, -4096, LEAST, MOST}) {
            Check.refused("word(" + place + ")", Check.INDEX, () -> x.word(place, 5));
        }
        Check.same("unchanged", x.word(0, 0), 3);
        Check.same("unchanged", x.word(4095, 0), 3);
    }

    private static void frame() {
        Check.sentence("The frame's size.");
        DrawCommands x = Check.of(20, 0, 0, 3, 2, 0, 0);
        Check.refusal("not yet", x, 5, 0, 0);
        x.frame(3, 2);
        x.begin(true);
        Check.done("wide 3, high 2", x, 20);
        x.frame(2, 3);
        x.begin(true);
        Check.refusal("wide 2, high 3", x, 5, 0, 0);
        DrawCommands y = Check.of(20, 0, 0, 3, 2, 0, 0, 20, 0, 0, 3, 2, 0, 0);
        y.frame(3, 2);
        Check.done("the frame as it is", y, 20);
        y.frame(3, 1);
        Check.refusal("the frame as it became in the run", y, 5, 7, 0);
        Check.sentence("IllegalArgumentException if it is not so.");
        for (int v : new int[] {0, -1, 129, 130, LEAST, MOST}) {
            for (int other : new int[] {1, 2, 3, 4, 128}) {
                frameStays3By2(v, other);
                frameStays3By2(other, v);
            }
            frameStays3By2(v, v);
        }
    }

    private static void frameStays3By2(int wide, int high) {
        int[][] larger = {{20, 0, 0, 4, 1, 0, 0}, {20, 0, 0, 1, 3, 0, 0}};
        for (int[] copy : larger) {
            DrawCommands x = Check.of(20, 0, 0, 3, 2, 0, 0);
            Check.put(x, copy);
            x.frame(3, 2);
            Check.refused("frame(" + wide + ", " + high + ")", Check.ARGUMENT, () -> x.frame(wide, high));
            Check.done("no smaller", x, 20);
            Check.refusal("no larger", x, 5, 7, 0);
        }
    }

    private static void put() {
        Check.sentence("One more word of the stream: how many.");
        DrawCommands x = new DrawCommands();
        for (int i = 1; i <= 400; i++) {
            Check.same("put", x.put(i % 2 == 1 ? 15 : i % 16), i);
        }
        Check.same("about(6)", x.about(6), 400);
        Check.doneAt("the first", x, 15, 0, 0);
        Check.same("put in a run", x.put(22), 401);
        x.clear();
        Check.same("put behind clear()", x.put(LEAST), 1);
        x.begin(false);
        Check.same("put behind begin()", x.put(MOST), 2);
        Check.refusal("the least word", x, 2, 0, 0);
        Check.same("put when it is over", x.put(1), 3);
        Check.same("about(6)", x.about(6), 3);
    }

    private static void clear() {
        Check.sentence("The stream is empty, and the run begins anew (no query is open); what was told stays.");
        DrawCommands x = Check.of(15, 6, 19, 3, 1, 99);
        x.word(5, 55);
        x.frame(2, 2);
        x.next();
        x.next();
        Check.same("a query is open", x.about(5), 3);
        x.next();
        x.clear();
        Check.abouts("cleared", x, 0, 0, -1, -1, 0, -1, 0);
        Check.refused("no argument", Check.INDEX, () -> x.argument(0));
        Check.kept(x, 15, 0, 6);
        Check.same("memory stays", x.word(5, 0), 55);
        Check.doneAt("an empty stream", x, 0, 0, 0);
        x.clear();
        Check.put(x, 20, 1, 1, 1, 1, 0, 0, 19, 3, 0);
        Check.done("the frame stays", x, 20);
        Check.refusal("no query is open", x, 6, 7, 0);
        DrawCommands y = Check.of(23, 7, 22);
        y.next();
        y.clear();
        Check.refused("no argument of the CALL", Check.INDEX, () -> y.argument(0));
        y.put(22);
        Check.doneAt("no list goes on", y, 22, 0, 0);
        Check.doneAt("the stream's end", y, 0, 1, 0);
        Check.same("over", y.about(0), 1);
        DrawCommands z = new DrawCommands();
        z.clear();
        Check.abouts("a new one cleared", z, 0, 0, -1, -1, 0, -1, 0);
    }

    private static void begin() {
        Check.sentence("The run begins (anew) at the stream's first word; no query is open; what was told stays,"
            + " if so it is said, otherwise nothing was told.");
        for (int keeps = 0; keeps <= 1; keeps++) {
            boolean stays = keeps == 1;
            DrawCommands x = Check.of(15, 6, 5, 31, 1, 2, 3, 4, 21, 9, 1, 8, 19, 3, 1, 23, 0);
            for (int i = 0; i < 5; i++) {
                x.next();
            }
            Check.same("a query is open", x.about(5), 3);
            x.begin(stays);
            Check.abouts("begun", x, 0, 0, -1, -1, 0, -1, 17);
            Check.refused("no argument", Check.INDEX, () -> x.argument(0));
            Check.kept(x, 15, 0, stays ? 6 : 15);
            Check.kept(x, 5, 31, 31, stays ? 1 : 0, stays ? 2 : 0, stays ? 3 : 0, stays ? 4 : 0);
            Check.same("memory stays", x.word(9, 8), 8);
            Check.doneAt("the first again", x, 15, 0, 0);
            for (int i = 0; i < 4; i++) {
                x.next();
            }
            Check.same("no query was open", x.about(1), 0);
            DrawCommands y = Check.of(99);
            y.next();
            y.begin(stays);
            Check.abouts("begun behind a refusal", y, 0, 0, -1, -1, 0, -1, 1);
            DrawCommands z = new DrawCommands();
            z.next();
            z.begin(stays);
            Check.abouts("begun behind the end", z, 0, 0, -1, -1, 0, -1, 0);
            Check.doneAt("an empty stream again", z, 0, 0, 0);
        }
        nothingWasTold();
        frameStays();
    }

    /** Every kept argument is told something else than it is untold, then begin(false) makes it untold. */
    private static void nothingWasTold() {
        for (int kind = 0; kind < Table.KINDS; kind++) {
            for (int n = 0; n < Table.holders(kind); n += Math.max(1, Table.holders(kind) - 1)) {
                DrawCommands x = Check.of(kind);
                int many = Table.arguments(kind);
                int[] told = new int[many];
                int[] untold = new int[many];
                for (int k = 0; k < many; k++) {
                    untold[k] = Table.untold(kind, n, k);
                    int most = Table.most(kind, k);
                    told[k] = k == 0 && Table.holders(kind) > 1 ? n : untold[k] == 2 ? 3 : Math.min(2, most);
                    x.put(told[k]);
                }
                x.next();
                Check.kept(x, kind, n, told);
                x.begin(true);
                Check.kept(x, kind, n, told);
                x.begin(false);
                Check.kept(x, kind, n, untold);
            }
        }
    }

    private static void frameStays() {
        DrawCommands x = Check.of(20, 1, 2, 1, 1, 0, 0);
        x.frame(2, 3);
        x.begin(false);
        Check.done("the frame stays", x, 20);
    }

    private static void next() {
        Check.sentence("Goes on by one command: its kind");
        DrawCommands x = Check.of(22, 1, 7, LEAST, 16777215, 255, 22);
        Check.doneAt("FLUSH", x, 22, 0, 0);
        Check.doneAt("CLEAR", x, 1, 1, 0);
        Check.same("no more than one", x.about(4), 2);
        Check.sentence("NONE if it is refused.");
        for (int[] words : new int[][] {{26}, {15}, {15, 16}, {23, 4096}, {19, 0, 0}}) {
            DrawCommands y = Check.of(words);
            Check.same("refused", y.next(), DrawCommands.NONE);
            Check.same("over", y.about(0), 1);
        }
        Check.sentence("(Where the stream ends without END it is 0.)");
        DrawCommands z = Check.of(22);
        z.next();
        Check.same("the end of its words", z.next(), 0);
        Check.abouts("the end of its words", z, 1, 0, 1, 0, 2, -1, 1);
        Check.same("an empty stream", new DrawCommands().next(), 0);
    }

    private static void nextWhenOver() {
        Check.sentence("IllegalStateException if the run is over.");
        int[][] streams = {{}, {0}, {22}, {99}, {15}, {15, 16}, {23, 4096}, {17, 0, 0, 0}, {0, 22}};
        for (int[] words : streams) {
            DrawCommands x = Check.of(words);
            for (int i = 0; i < 3 && x.about(0) == 0; i++) {
                x.next();
            }
            Check.same("over", x.about(0), 1);
            int[] before = new int[7];
            for (int what = 0; what < 7; what++) {
                before[what] = x.about(what);
            }
            Check.refused("next()", Check.STATE, () -> x.next());
            Check.refused("next() again", Check.STATE, () -> x.next());
            Check.abouts("as it was", x, before);
        }
    }

    private static void argument() {
        Check.sentence("Argument k of the command that came last (of STORE from k = 2 on its words).");
        DrawCommands x = Check.of(21, 50, 2, LEAST, MOST, 3, 1, 2, 3, 4);
        x.next();
        int[] due = {50, 2, LEAST, MOST};
        for (int k = 0; k < due.length; k++) {
            Check.same("STORE's argument " + k, x.argument(k), due[k]);
        }
        x.next();
        for (int k = 0; k < 4; k++) {
            Check.same("SCISSORS' argument " + k, x.argument(k), k + 1);
        }
        DrawCommands y = Check.of(23, 5);
        Check.memory(y, 5, 3, 1, 2, 3, 4);
        y.next();
        Check.same("CALL's", y.argument(0), 5);
        y.next();
        y.word(6, 77);
        Check.same("as it came", y.argument(0), 1);
        y.put(15);
        y.frame(2, 2);
        Check.same("still the last", y.argument(3), 4);
    }

    private static void noArgument() {
        Check.sentence("IndexOutOfBoundsException if there is none such, or none came (or was refused).");
        DrawCommands x = Check.of(21, 50, 2, -7, 8, 22, 21, 50, 0, 15, 16);
        Check.refused("none came", Check.INDEX, () -> x.argument(0));
        Check.refused("none came", Check.INDEX, () -> x.argument(-1));
        x.next();
        for (int k : new int[] {-1, 4, 5, 258, LEAST, MOST}) {
            Check.refused("STORE's argument " + k, Check.INDEX, () -> x.argument(k));
        }
        x.next();
        Check.refused("FLUSH has none", Check.INDEX, () -> x.argument(0));
        x.next();
        Check.same("a STORE without words", x.argument(1), 0);
        Check.refused("a STORE without words", Check.INDEX, () -> x.argument(2));
        Check.refusal("MASK", x, 3, 9, 0);
        for (int k = 0; k < 4; k++) {
            int gone = k;
            Check.refused("it was refused", Check.INDEX, () -> x.argument(gone));
        }
        x.begin(true);
        Check.refused("none came since begin()", Check.INDEX, () -> x.argument(0));
        x.next();
        x.clear();
        Check.refused("none came since clear()", Check.INDEX, () -> x.argument(0));
        DrawCommands y = Check.inList(9, 0);
        y.next();
        Check.refused("an END has none", Check.INDEX, () -> y.argument(0));
        y.next();
        Check.refused("nor has the stream's end", Check.INDEX, () -> y.argument(0));
    }

    private static void kept() {
        Check.sentence("What is kept of kinds 2 .. 5, 7 .. 16, 24, 25: argument k as it was told last");
        int[][] tellings = {{2, -1023, 1023, 1024, 2, 3, 4}, {3, LEAST, MOST, 5, 6}, {4, 7, 1, 2, 3, 1},
            {5, 31, LEAST, MOST, -1, 1}, {7, 40, 3}, {8, 50, 4}, {9, 3, 1, 2, 3, 4, 5}, {10, 7, 1},
            {11, 1, 2, 3, 4, 5, 6, 7, 1}, {12, 1, 2, 3, 4, 3, 2}, {13, LEAST}, {14, 15}, {15, 0}, {16, 3, 1},
            {24, 3, 1, 2, 3}, {25, 3, LEAST, MOST, -1, 1}};
        DrawCommands x = new DrawCommands();
        for (int[] words : tellings) {
            Check.put(x, words);
        }
        for (int[] words : tellings) {
            Check.done("kind " + words[0], x, words[0]);
        }
        for (int[] words : tellings) {
            int n = Table.holders(words[0]) > 1 ? words[1] : 0;
            Check.kept(x, words[0], n, java.util.Arrays.copyOfRange(words, 1, words.length));
        }
        x.clear();
        Check.put(x, 15, 1, 15, 2);
        x.next();
        Check.kept(x, 15, 0, 1);
        x.next();
        Check.kept(x, 15, 0, 2);
    }

    private static void keptUntold() {
        Check.sentence("What was never told is 0, but VIEW wide and high 1 and far 2^24 - 1, SCISSORS x1 -1,"
            + " programs' from -1, TEXTURE's levels 1, DEPTH and STENCIL test -1, BLEND's first equation -1,"
            + " LOGIC -1, MASK 15, an attribute's and a uniform's own n, a unit's, a side's.");
        DrawCommands x = new DrawCommands();
        Check.kept(x, 2, 0, 0, 0, 1, 1, 0, 16777215);
        Check.kept(x, 3, 0, 0, 0, -1, 0);
        Check.kept(x, 7, 0, -1, 0);
        Check.kept(x, 8, 0, -1, 0);
        Check.kept(x, 10, 0, -1, 0);
        Check.kept(x, 12, 0, 0, 0, 0, 0, -1, 0);
        Check.kept(x, 13, 0, 0);
        Check.kept(x, 14, 0, -1);
        Check.kept(x, 15, 0, 15);
        Check.kept(x, 16, 0, 0, 0);
        for (int n = 0; n < 8; n++) {
            Check.kept(x, 4, n, n, 0, 0, 0, 0);
        }
        for (int n = 0; n < 32; n++) {
            Check.kept(x, 5, n, n, 0, 0, 0, 0);
        }
        for (int n = 0; n < 4; n++) {
            Check.kept(x, 9, n, n, 0, 0, 0, 1, 0);
            Check.kept(x, 24, n, n, 0, 0, 0);
            Check.kept(x, 25, n, n, 0, 0, 0, 0);
        }
        for (int n = 0; n < 2; n++) {
            Check.kept(x, 11, n, n, -1, 0, 0, 0, 0, 0, 0);
        }
    }

    private static void nothingSuchKept() {
        Check.sentence("IllegalArgumentException if there is no such kind, n or argument.");
        DrawCommands x = new DrawCommands();
        for (int kind : new int[] {-1, 0, 1, 6, 17, 18, 19, 20, 21, 22, 23, 26, 27, LEAST, MOST}) {
            Check.refused("kind " + kind, Check.ARGUMENT, () -> x.kept(kind, 0, 0));
        }
        int[][] wrong = {{4, 8, 0}, {5, 32, 0}, {9, 4, 0}, {11, 2, 0}, {24, 4, 0}, {25, 4, 0}, {2, 1, 0}, {3, 1, 0},
            {7, 1, 0}, {8, 1, 0}, {10, 1, 0}, {12, 1, 0}, {13, 1, 0}, {14, 1, 0}, {15, 1, 0}, {16, 1, 0},
            {2, 0, 6}, {3, 0, 4}, {4, 0, 5}, {5, 0, 5}, {7, 0, 2}, {8, 0, 2}, {9, 0, 6}, {10, 0, 2}, {11, 0, 8},
            {12, 0, 6}, {13, 0, 1}, {14, 0, 1}, {15, 0, 1}, {16, 0, 2}, {24, 0, 4}, {25, 0, 5},
            {15, -1, 0}, {15, 0, -1}, {5, -1, 1}, {5, 1, -1}, {5, LEAST, 0}, {5, 0, LEAST}, {5, MOST, 0}, {5, 0, MOST}};
        for (int[] w : wrong) {
            Check.refused("kept(" + w[0] + ", " + w[1] + ", " + w[2] + ")", Check.ARGUMENT,
                () -> x.kept(w[0], w[1], w[2]));
        }
    }

    private static void about() {
        Check.sentence("0 whether the run is over (1 or 0), 1 the number with which a command was refused (0: none),"
            + " 4 how many commands were done, 5 the query that is open (NONE: none), 6 how many words the stream has.");
        DrawCommands x = Check.of(22, 19, 0, 1, 19, 0, 0, 98);
        Check.abouts("at the beginning", x, 0, 0, -1, -1, 0, -1, 8);
        x.next();
        Check.abouts("behind FLUSH", x, 0, 0, 0, 0, 1, -1, 8);
        x.next();
        Check.abouts("query 0 is open", x, 0, 0, 1, 0, 2, 0, 8);
        x.put(22);
        Check.abouts("a word more", x, 0, 0, 1, 0, 2, 0, 9);
        x.next();
        Check.abouts("query 0 is ended", x, 0, 0, 4, 0, 3, -1, 9);
        x.next();
        Check.abouts("refused", x, 1, 2, 7, 0, 3, -1, 9);
        DrawCommands y = Check.of(0);
        y.next();
        Check.abouts("over by an END", y, 1, 0, 0, 0, 1, -1, 1);
    }

    private static void aboutPlaces() {
        Check.sentence("2 and 3 the place of the command that came last, or was refused: its first word,"
            + " and how deep calls are there (2 and 3 are NONE if none came.)");
        DrawCommands x = Check.of(22, 23, 4090);
        Check.memory(x, 4090, 22, 23, 70, 15, 99);
        Check.memory(x, 70, 22, 0);
        Check.same("none came", x.about(2), -1);
        Check.same("none came", x.about(3), -1);
        Check.doneAt("in the stream", x, 22, 0, 0);
        Check.doneAt("a CALL is where it stands", x, 23, 1, 0);
        Check.doneAt("in the list", x, 22, 4090, 1);
        Check.doneAt("a CALL of the list", x, 23, 4091, 1);
        Check.doneAt("deeper", x, 22, 70, 2);
        Check.doneAt("an END is where it stands", x, 0, 71, 2);
        Check.refusal("refused in the list", x, 3, 4093, 1);
        x.begin(true);
        Check.same("none came since begin()", x.about(2), -1);
        Check.same("none came since begin()", x.about(3), -1);
        x.next();
        x.clear();
        Check.same("none came since clear()", x.about(2), -1);
        Check.same("none came since clear()", x.about(3), -1);
        DrawCommands y = Check.of(99);
        Check.refusal("the first is refused", y, 2, 0, 0);
    }

    private static void aboutAnother() {
        Check.sentence("IllegalArgumentException for another what.");
        DrawCommands x = new DrawCommands();
        for (int what : new int[] {-1, 7, 8, LEAST, MOST}) {
            Check.refused("about(" + what + ")", Check.ARGUMENT, () -> x.about(what));
        }
    }
}
