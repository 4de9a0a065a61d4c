/** Promises 1 to 10, one method each. */
public final class PromisesTest {
    public static void main(String[] args) {
        newObject();
        words();
        frames();
        puts();
        clears();
        begins();
        nexts();
        lists();
        listThatChanges();
        arguments();
        kepts();
        abouts();
        Check.end();
    }

    private static void newObject() {
        DrawCommands x = new DrawCommands();
        int[] due = {0, 0, -1, -1, 0, -1, 0};
        for (int what = 0; what < due.length; what++) {
            Check.same("new about(" + what + ")", x.about(what), due[what]);
        }
        Check.refused("new argument(0)", Check.INDEX, () -> x.argument(0));
        for (int place = 0; place < 4096; place++) {
            Check.same("new word " + place, x.word(place, 0), 0);
        }
        Check.put(x, 20, 0, 0, 1, 1, 0, 0, 20, 0, 0, 1, 2, 0, 0);
        Check.done("a frame of 1 by 1", x, 20);
        Check.refusal("no higher", x, 5, 7, 0);
    }

    private static void words() {
        DrawCommands x = new DrawCommands();
        for (int place : new int[] {0, 1, 4094, 4095}) {
            Check.same("word", x.word(place, place + 7), 0);
            Check.same("word", x.word(place, Integer.MIN_VALUE), place + 7);
            Check.same("word", x.word(place, 3), Integer.MIN_VALUE);
        }
        for (int place : new int[] {-1, 4096, Integer.MIN_VALUE, Integer.MAX_VALUE}) {
            Check.refused("word(" + place + ")", Check.INDEX, () -> x.word(place, 5));
        }
        Check.same("unchanged", x.word(0, 0), 3);
        Check.same("unchanged", x.word(4095, 0), 3);
    }

    private static void frames() {
        DrawCommands x = new DrawCommands();
        x.frame(128, 128);
        x.frame(1, 1);
        x.frame(3, 2);
        int[] wrong = {0, -1, 129, Integer.MIN_VALUE, Integer.MAX_VALUE};
        for (int v : wrong) {
            Check.refused("frame(" + v + ", 1)", Check.ARGUMENT, () -> x.frame(v, 1));
            Check.refused("frame(1, " + v + ")", Check.ARGUMENT, () -> x.frame(1, v));
        }
        Check.put(x, 20, 0, 0, 3, 2, 0, 0, 20, 0, 0, 2, 3, 0, 0);
        Check.done("wide 3, high 2 still", x, 20);
        Check.refusal("not wide 2, high 3", x, 5, 7, 0);
        x.frame(2, 3);
        x.begin(true);
        Check.refusal("wide 2 now", x, 5, 0, 0);
    }

    private static void puts() {
        DrawCommands x = new DrawCommands();
        for (int i = 1; i <= 4096; i++) {
            Check.same("put", x.put(i == 1 ? 99 : 0), i);
        }
        Check.refused("put at 4096", Check.UNSUPPORTED, () -> x.put(1));
        Check.same("about(6)", x.about(6), 4096);
        x.clear();
        Check.same("put anew", x.put(15), 1);
        Check.same("put anew", x.put(4), 2);
        Check.done("the new words", x, 15);
        Check.same("put in a run", x.put(14), 3);
        Check.same("put in a run", x.put(7), 4);
        Check.done("words put in a run", x, 14);
        Check.done("the end", x, 0);
        Check.same("put behind the end", x.put(22), 5);
        Check.same("over all the same", x.about(0), 1);
        Check.refused("next", Check.STATE, () -> x.next());
    }

    private static void clears() {
        DrawCommands x = Check.of(15, 6, 19, 3, 1, 99);
        x.word(5, 55);
        x.frame(2, 2);
        x.next();
        x.next();
        x.next();
        x.clear();
        freshRun("clear", x, 0);
        Check.same("told stays", x.kept(15, 0, 0), 6);
        Check.same("memory stays", x.word(5, 0), 55);
        Check.done("an empty stream", x, 0);
        Check.same("its place", x.about(2), 0);
        x.clear();
        Check.put(x, 20, 1, 1, 1, 1, 0, 0);
        Check.done("the frame stays", x, 20);
        DrawCommands y = Check.of(23, 7);
        y.next();
        y.clear();
        Check.put(y, 22);
        Check.done("no list goes on", y, 22);
        Check.same("the stream's depth", y.about(3), 0);
        Check.done("the stream's end", y, 0);
        Check.same("over", y.about(0), 1);
    }

    private static void freshRun(String what, DrawCommands x, int words) {
        int[] due = {0, 0, -1, -1, 0, -1, words};
        for (int i = 0; i < due.length; i++) {
            Check.same(what + " about(" + i + ")", x.about(i), due[i]);
        }
        Check.refused(what + " argument(0)", Check.INDEX, () -> x.argument(0));
    }

    private static void begins() {
        for (int keeps = 0; keeps <= 1; keeps++) {
            DrawCommands x = Check.of(15, 6, 5, 31, 1, 2, 3, 4, 21, 9, 1, 8, 19, 3, 1, 23, 0);
            for (int i = 0; i < 5; i++) {
                x.next();
            }
            Check.same("the query", x.about(5), 3);
            x.begin(keeps == 1);
            freshRun("begin", x, 17);
            Check.same("the mask", x.kept(15, 0, 0), keeps == 1 ? 6 : 15);
            Check.same("the uniform", x.kept(5, 31, 4), keeps == 1 ? 4 : 0);
            Check.same("the uniform's n", x.kept(5, 31, 0), 31);
            Check.same("memory stays", x.word(9, 8), 8);
            Check.done("the first again", x, 15);
            Check.same("its place", x.about(2), 0);
            Check.same("its depth", x.about(3), 0);
        }
        DrawCommands y = Check.of(99);
        y.next();
        y.begin(true);
        freshRun("begin behind a refusal", y, 1);
    }

    private static void nexts() {
        DrawCommands x = Check.of(22, 0, 22);
        Check.done("FLUSH", x, 22);
        Check.same("goes on", x.about(0), 0);
        Check.done("END", x, 0);
        Check.same("over", x.about(0), 1);
        Check.same("where", x.about(2), 1);
        Check.refused("next", Check.STATE, () -> x.next());
        Check.same("where still", x.about(2), 1);
        Check.same("done still", x.about(4), 2);
        DrawCommands y = Check.of(22);
        y.next();
        Check.done("the end of the words", y, 0);
        Check.same("where the words end", y.about(2), 1);
        Check.same("how deep", y.about(3), 0);
        Check.same("over", y.about(0), 1);
        Check.refused("no argument", Check.INDEX, () -> y.argument(0));
        Check.refused("next", Check.STATE, () -> y.next());
    }

    private static void lists() {
        DrawCommands x = Check.of(23, 10, 15, 3);
        Check.memory(x, 10, 15, 1, 23, 20, 15, 2, 0);
        Check.memory(x, 20, 14, 5, 0);
        int[][] due = {{23, 0, 0}, {15, 10, 1}, {23, 12, 1}, {14, 20, 2}, {0, 22, 2},
            {15, 14, 1}, {0, 16, 1}, {15, 2, 0}, {0, 4, 0}};
        for (int i = 0; i < due.length; i++) {
            Check.same("not over yet", x.about(0), 0);
            Check.done("list", x, due[i][0]);
            Check.same("place", x.about(2), due[i][1]);
            Check.same("depth", x.about(3), due[i][2]);
        }
        Check.same("over", x.about(0), 1);
        Check.same("mask", x.kept(15, 0, 0), 3);
        Check.same("logic", x.kept(14, 0, 0), 5);
        DrawCommands y = Check.of(23, 10, 23, 10, 23, 10, 23, 10, 23, 10);
        for (int i = 0; i < 5; i++) {
            Check.done("call one behind another", y, 23);
            Check.done("its end", y, 0);
        }
    }

    /** A STORE over its own list: its words are read before they are written. */
    private static void listThatChanges() {
        DrawCommands x = Check.of(23, 100);
        Check.memory(x, 100, 21, 102, 4, 15, 9, 22, 22, 99, 0);
        x.next();
        Check.done("STORE", x, 21);
        int[] due = {102, 4, 15, 9, 22, 22};
        for (int k = 0; k < due.length; k++) {
            Check.same("STORE's argument " + k, x.argument(k), due[k]);
        }
        int[] stored = {21, 102, 15, 9, 22, 22, 22, 99, 0};
        for (int i = 0; i < stored.length; i++) {
            Check.same("word " + (100 + i), x.word(100 + i, stored[i]), stored[i]);
        }
        x.word(107, 22);
        Check.done("behind its own words", x, 22);
        Check.same("place", x.about(2), 107);
        DrawCommands y = Check.of(23, 100);
        Check.memory(y, 100, 21, 104, 1, 22, 99);
        y.next();
        Check.done("STORE over the next command", y, 21);
        Check.done("the stored one", y, 22);
    }

    private static void arguments() {
        DrawCommands x = Check.of(21, 50, 2, -7, 8, 22, 0);
        Check.refused("none came", Check.INDEX, () -> x.argument(0));
        x.next();
        int[] due = {50, 2, -7, 8};
        for (int k = 0; k < due.length; k++) {
            Check.same("argument " + k, x.argument(k), due[k]);
        }
        for (int k : new int[] {-1, 4, 258, Integer.MIN_VALUE, Integer.MAX_VALUE}) {
            Check.refused("argument " + k, Check.INDEX, () -> x.argument(k));
        }
        x.next();
        Check.refused("FLUSH has none", Check.INDEX, () -> x.argument(0));
        DrawCommands y = Check.of(23, 5);
        Check.memory(y, 5, 3, 1, 2, 3, 4);
        y.next();
        Check.same("CALL's", y.argument(0), 5);
        y.next();
        y.word(6, 77);
        Check.same("as it came", y.argument(0), 1);
        y.next();
        Check.refused("an END's", Check.INDEX, () -> y.argument(0));
    }

    private static void kepts() {
        DrawCommands x = Check.of(4, 2, 10, 11, 3, 1, 4, 7, 20, 21, 4, 2, 9, 1, 30, 5, 6, 7, 1,
            11, 1, 3, 4, 5, 6, 7, 1, 2, 24, 3, 1, 2, 3, 25, 0, 9, 8, 7, 6, 6, 30, 2, 200);
        Check.memory(x, 200, 1, 2, 3, 4, -5, -6, -7, -8, 99);
        for (int i = 0; i < 7; i++) {
            Check.same("told", x.next() > 0 ? 1 : 0, 1);
        }
        row(x, 4, 2, 2, 10, 11, 3, 1);
        row(x, 4, 7, 7, 20, 21, 4, 2);
        row(x, 4, 3, 3, 0, 0, 0, 0);
        row(x, 9, 1, 1, 30, 5, 6, 7, 1);
        row(x, 9, 0, 0, 0, 0, 0, 1, 0);
        row(x, 11, 1, 1, 3, 4, 5, 6, 7, 1, 2);
        row(x, 11, 0, 0, -1, 0, 0, 0, 0, 0, 0);
        row(x, 24, 3, 3, 1, 2, 3);
        row(x, 24, 2, 2, 0, 0, 0);
        row(x, 25, 0, 0, 9, 8, 7, 6);
        row(x, 25, 3, 3, 0, 0, 0, 0);
        row(x, 5, 29, 29, 0, 0, 0, 0);
        row(x, 5, 30, 30, 1, 2, 3, 4);
        row(x, 5, 31, 31, -5, -6, -7, -8);
        x.word(200, 1000);
        row(x, 5, 30, 30, 1, 2, 3, 4);
        x.clear();
        Check.put(x, 5, 30, 6, 6, 6, 6, 6, 30, 0, 0);
        x.next();
        x.next();
        row(x, 5, 30, 30, 6, 6, 6, 6);
        for (int kind : new int[] {-1, 0, 1, 6, 17, 18, 19, 20, 21, 22, 23, 26, 27,
            Integer.MIN_VALUE, Integer.MAX_VALUE}) {
            Check.refused("kept(" + kind + ")", Check.ARGUMENT, () -> x.kept(kind, 0, 0));
        }
    }

    private static void row(DrawCommands x, int kind, int n, int... due) {
        for (int k = 0; k < due.length; k++) {
            Check.same("kept(" + kind + ", " + n + ", " + k + ")", x.kept(kind, n, k), due[k]);
        }
    }

    private static void abouts() {
        DrawCommands x = Check.of(22, 19, 4, 1, 98);
        x.next();
        x.next();
        int[] due = {0, 0, 1, 0, 2, 4, 5};
        for (int what = 0; what < due.length; what++) {
            Check.same("about(" + what + ")", x.about(what), due[what]);
        }
        x.next();
        int[] dueThen = {1, 2, 4, 0, 2, 4, 5};
        for (int what = 0; what < dueThen.length; what++) {
            Check.same("refused about(" + what + ")", x.about(what), dueThen[what]);
        }
        for (int what : new int[] {-1, 7, 8, Integer.MIN_VALUE, Integer.MAX_VALUE}) {
            Check.refused("about(" + what + ")", Check.ARGUMENT, () -> x.about(what));
        }
    }
}
