/** Each number of a refusal, their order, and what a refused command leaves as it was. */
public final class RefusalsTest {
    public static void main(String[] args) {
        kinds();
        cuts();
        cutStores();
        uniforms();
        programs();
        copies();
        stores();
        calls();
        draws();
        queries();
        order();
        tellsNothing();
        tooLong();
        Check.end();
    }

    private static void kinds() {
        for (int kind : new int[] {-1, 26, 27, 255, Integer.MAX_VALUE, Integer.MIN_VALUE}) {
            Check.refusal("kind " + kind, Check.of(kind, 0, 0, 0), 2, 0, 0);
            DrawCommands x = Check.of(23, 9);
            Check.memory(x, 9, kind);
            x.next();
            Check.refusal("kind " + kind + " in a list", x, 2, 9, 1);
        }
    }

    private static void cuts() {
        Check.refusal("a kind alone", Check.of(15), 1, 0, 0);
        Check.refusal("one word short", Check.of(3, 1, 2, 3), 1, 0, 0);
        DrawCommands x = Check.of(23, 4095);
        x.word(4095, 15);
        x.next();
        Check.refusal("cut by memory's end", x, 1, 4095, 1);
        DrawCommands y = Check.of(23, 4094);
        Check.memory(y, 4094, 15, 3);
        y.next();
        Check.done("memory's last words", y, 15);
        Check.refusal("a kind beyond memory", y, 1, 4096, 1);
        DrawCommands z = Check.of(23, 4094);
        Check.memory(z, 4094, 23, 0);
        z.next();
        Check.done("a call by memory's last words", z, 23);
        Check.done("the end of its list", z, 0);
        Check.refusal("behind that call", z, 1, 4096, 1);
    }

    private static void cutStores() {
        Check.refusal("STORE alone", Check.of(21), 1, 0, 0);
        Check.refusal("STORE without many", Check.of(21, 0), 1, 0, 0);
        Check.refusal("STORE one word short", Check.of(21, 0, 2, 5), 1, 0, 0);
        Check.refusal("STORE many below 0 has no words", Check.of(21, 0, -1), 3, 0, 0);
        Check.refusal("STORE many least", Check.of(21, 0, Integer.MIN_VALUE), 3, 0, 0);
        Check.refusal("STORE many above 256, cut", Check.of(storeOf(257, 255)), 1, 0, 0);
        Check.refusal("STORE many above 256, whole", Check.of(storeOf(257, 256)), 3, 0, 0);
        Check.refusal("STORE many most, whole", Check.of(storeOf(Integer.MAX_VALUE, 256)), 3, 0, 0);
        Check.refusal("STORE 256, cut", Check.of(storeOf(256, 255)), 1, 0, 0);
        DrawCommands x = Check.of(storeOf(256, 256));
        Check.done("STORE 256", x, 21);
        Check.same("STORE 256 last word", x.argument(257), 255);
        Check.refused("STORE 256 no more", Check.INDEX, () -> x.argument(258));
        Check.same("STORE 256 memory", x.word(255, 0), 255);
        Check.same("STORE 256 memory behind", x.word(256, 0), 0);
        DrawCommands y = Check.of(23, 4090);
        Check.memory(y, 4090, 21, 0, 4, 1, 2, 3);
        y.next();
        Check.refusal("STORE cut by memory's end", y, 1, 4090, 1);
    }

    private static int[] storeOf(int many, int words) {
        int[] row = new int[3 + words];
        row[0] = 21;
        row[2] = many;
        for (int i = 0; i < words; i++) {
            row[3 + i] = i;
        }
        return row;
    }

    private static void uniforms() {
        Check.done("UNIFORMS all", Check.of(6, 0, 32, 0), 6);
        Check.done("UNIFORMS last", Check.of(6, 31, 1, 4092), 6);
        Check.refusal("UNIFORMS pass 32", Check.of(6, 31, 2, 0), 5, 0, 0);
        Check.refusal("UNIFORMS pass 32 by one", Check.of(6, 1, 32, 0), 5, 0, 0);
        Check.refusal("UNIFORMS pass memory", Check.of(6, 31, 1, 4093), 5, 0, 0);
        Check.done("UNIFORMS to memory's end", Check.of(6, 0, 32, 3968), 6);
        Check.refusal("UNIFORMS pass memory by one", Check.of(6, 0, 32, 3969), 5, 0, 0);
        Check.done("no UNIFORMS beyond memory", Check.of(6, 31, 0, 1 << 20), 6);
    }

    private static void programs() {
        for (int kind = 7; kind <= 8; kind++) {
            Check.done("program to memory's end", Check.of(kind, 4093, 1), kind);
            Check.refusal("program beyond it", Check.of(kind, 4094, 1), 5, 0, 0);
            Check.done("long program to memory's end", Check.of(kind, 3328, 256), kind);
            Check.refusal("long program beyond it", Check.of(kind, 3329, 256), 5, 0, 0);
        }
    }

    private static DrawCommands copy(int wide, int high, int... arguments) {
        DrawCommands x = Check.of(20);
        Check.put(x, arguments);
        x.frame(wide, high);
        return x;
    }

    private static void copies() {
        Check.done("COPY the frame", Check.of(20, 0, 0, 1, 1, 0, 0), 20);
        Check.refusal("COPY wider than a new frame", Check.of(20, 0, 0, 2, 1, 0, 0), 5, 0, 0);
        Check.done("COPY in the corner", copy(7, 5, 4, 3, 3, 2, 0, 1), 20);
        Check.refusal("COPY too far right", copy(6, 5, 4, 3, 3, 2, 0, 1), 5, 0, 0);
        Check.refusal("COPY too far up", copy(7, 4, 4, 3, 3, 2, 0, 1), 5, 0, 0);
        Check.done("COPY to memory's end", copy(7, 5, 0, 0, 7, 5, 4096 - 35, 2), 20);
        Check.refusal("COPY beyond memory", copy(7, 5, 0, 0, 7, 5, 4096 - 34, 2), 5, 0, 0);
        Check.done("COPY 4096 words", copy(128, 128, 0, 0, 128, 32, 0, 0), 20);
        Check.refusal("COPY 4097 words", copy(128, 128, 0, 0, 128, 32, 1, 0), 5, 0, 0);
        Check.refusal("COPY 16384 words", copy(128, 128, 0, 0, 128, 128, 0, 0), 5, 0, 0);
        Check.done("COPY the last place", copy(128, 128, 127, 127, 1, 1, 4095, 0), 20);
    }

    private static void stores() {
        Check.done("STORE at the end", Check.of(21, 4095, 1, 9), 21);
        Check.refusal("STORE beyond the end", Check.of(21, 4096, 1, 9), 5, 0, 0);
        Check.refusal("STORE over the end", Check.of(21, 4095, 2, 9, 9), 5, 0, 0);
        Check.done("STORE nothing beyond", Check.of(21, 1 << 20, 0), 21);
    }

    private static void calls() {
        DrawCommands x = Check.of(23, 4095);
        Check.done("CALL the last word", x, 23);
        Check.done("an END there", x, 0);
        Check.refusal("CALL beyond memory", Check.of(23, 4096), 5, 0, 0);
        Check.refusal("CALL far beyond memory", Check.of(23, 1 << 20), 5, 0, 0);
        DrawCommands y = deep(23, 0);
        Check.refusal("CALL at depth 4", y, 6, 40, 4);
        DrawCommands z = deep(23, 4096);
        Check.refusal("CALL at depth 4 beyond memory", z, 5, 40, 4);
    }

    /** Four calls deep, with the words at 40 to be done next. */
    private static DrawCommands deep(int... words) {
        DrawCommands x = Check.of(23, 10);
        Check.memory(x, 10, 23, 20);
        Check.memory(x, 20, 23, 30);
        Check.memory(x, 30, 23, 40);
        Check.memory(x, 40, words);
        for (int i = 0; i < 4; i++) {
            Check.done("call " + i, x, 23);
            Check.same("the call's depth", x.about(3), i);
        }
        return x;
    }

    private static void draws() {
        int[][] draw = {{17, 0, 0, 0}, {18, 0, 0, 0, 0, 0}};
        for (int[] words : draw) {
            Check.refusal("no program", Check.of(words), 6, 0, 0);
            for (int kind = 7; kind <= 8; kind++) {
                DrawCommands x = Check.of(kind, 0, 1);
                Check.put(x, words);
                x.next();
                Check.refusal("only program " + kind, x, 6, 3, 0);
            }
            DrawCommands y = Check.of(7, 0, 1, 8, 0, 1);
            Check.put(y, words);
            y.next();
            y.next();
            Check.done("both programs", y, words[0]);
            y.clear();
            Check.put(y, words);
            Check.done("both programs still", y, words[0]);
            y.begin(true);
            Check.done("both programs kept", y, words[0]);
            y.begin(false);
            Check.refusal("both programs forgotten", y, 6, 0, 0);
        }
    }

    private static void queries() {
        Check.refusal("ends, none open", Check.of(19, 0, 0), 6, 0, 0);
        DrawCommands x = Check.of(19, 7, 1, 19, 7, 1);
        Check.done("begins", x, 19);
        Check.same("open", x.about(5), 7);
        Check.refusal("begins again", x, 6, 3, 0);
        Check.same("still open", x.about(5), 7);
        DrawCommands y = Check.of(19, 0, 1, 19, 1, 1);
        y.next();
        Check.refusal("another begins", y, 6, 3, 0);
        DrawCommands z = Check.of(19, 2, 1, 19, 1, 0);
        z.next();
        Check.refusal("another ends", z, 6, 3, 0);
        DrawCommands w = Check.of(19, 2, 1, 19, 2, 0, 19, 1, 1);
        w.next();
        Check.done("ends", w, 19);
        Check.same("none open", w.about(5), -1);
        Check.done("another begins then", w, 19);
        Check.same("that one open", w.about(5), 1);
    }

    private static void order() {
        Check.refusal("kind before cut", Check.of(99), 2, 0, 0);
        Check.refusal("cut before value", Check.of(10, 99), 1, 0, 0);
        Check.refusal("value before place", Check.of(7, 4096, 257), 3, 0, 0);
        Check.refusal("value before place in COPY", Check.of(20, 9, 9, 9, 9, 9, 3), 3, 0, 0);
        Check.refusal("value before state", Check.of(17, 3, 0, 0), 3, 0, 0);
        Check.refusal("value of n before the open query", Check.of(19, 8, 0), 3, 0, 0);
        Check.refusal("value in STORE before place", Check.of(21, -1, 0), 3, 0, 0);
    }

    private static void tellsNothing() {
        DrawCommands x = Check.of(2, 1, 2, 3, 4, 5, 6, 2, 9, 9, 9, 9, 9, -1);
        x.next();
        Check.refusal("VIEW", x, 3, 7, 0);
        for (int k = 0; k < 6; k++) {
            Check.same("VIEW as it was", x.kept(2, 0, k), k + 1);
        }
        DrawCommands y = Check.of(6, 30, 3, 0);
        Check.memory(y, 0, 1, 2, 3, 4);
        Check.refusal("UNIFORMS", y, 5, 0, 0);
        Check.same("uniform as it was", y.kept(5, 30, 1), 0);
        DrawCommands z = Check.of(21, 4094, 3, 5, 6, 7);
        Check.refusal("STORE", z, 5, 0, 0);
        Check.same("memory as it was", z.word(4094, 0), 0);
    }

    /** Beyond the 512 calls for which answers are promised; the limit is kept all the same. */
    private static void tooLong() {
        DrawCommands x = new DrawCommands();
        for (int i = 0; i < 2000; i++) {
            x.put(22);
        }
        for (int i = 0; i < 2000; i++) {
            x.next();
        }
        Check.same("2000 done", x.about(4), 2000);
        Check.same("not over", x.about(0), 0);
        Check.refusal("2001st", x, 7, 2000, 0);
        x.begin(true);
        Check.done("from 0 anew", x, 22);
        DrawCommands y = Check.of(23, 0);
        for (int i = 0; i < 2000; i++) {
            y.word(i, 22);
        }
        y.word(1999, 99);
        for (int i = 0; i < 2000; i++) {
            y.next();
        }
        Check.refusal("long before kind", y, 7, 1999, 1);
    }
}
