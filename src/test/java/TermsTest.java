/** One method for each sentence of 'Terms' that names an edge, in the document's order; no object is called over 512 times. */
public final class TermsTest {
    private static final int LEAST = Integer.MIN_VALUE;
    private static final int MOST = Integer.MAX_VALUE;

    public static void main(String[] args) {
        memory();
        frame();
        uniformsFromMemory();
        goingOn();
        call();
        callsMayBeFourDeep();
        endInTheStream();
        endOfTheWords();
        runIsOver();
        firstNumberThatIsSo();
        noSuchKind();
        cutByTheStream();
        cutByMemory();
        cutKindInAList();
        cutStore();
        valueThatMayNotBe();
        uniformsPass32();
        uniformsWords();
        programsWords();
        copysRectangle();
        copysWords();
        storesWords();
        callsWord();
        drawWithoutPrograms();
        queryBegins();
        queryEnds();
        callFourDeep();
        keptByHolder();
        storePutsItsWords();
        refusedTellsNothing();
        refusedStateTellsNothing();
        Check.end();
    }

    private static void memory() {
        Check.sentence("There is a MEMORY of 4096 words, numbered from 0");
        DrawCommands x = new DrawCommands();
        for (int place = 0; place < 4096; place += 63) {
            Check.same("word " + place, x.word(place, ~place), 0);
        }
        for (int place = 0; place < 4096; place += 63) {
            Check.same("word " + place, x.word(place, 0), ~place);
        }
        Check.same("the last word", x.word(4095, 5), 0);
        Check.same("the last word", x.word(4095, 6), 5);
        Check.refused("the word behind it", Check.INDEX, () -> x.word(4096, 1));
        Check.refused("the word before the first", Check.INDEX, () -> x.word(-1, 1));
    }

    private static void frame() {
        Check.sentence("a FRAME of 1 to 128 places wide and high");
        int[][] sizes = {{1, 1}, {1, 128}, {128, 1}, {128, 128}, {2, 127}};
        for (int[] size : sizes) {
            DrawCommands x = new DrawCommands();
            x.frame(size[0], size[1]);
            Check.put(x, 20, size[0] - 1, size[1] - 1, 1, 1, 0, 0);
            Check.done("COPY of the frame's last place", x, 20);
        }
        DrawCommands y = new DrawCommands();
        for (int wrong : new int[] {0, 129, -1, 256, LEAST, MOST}) {
            Check.refused("wide " + wrong, Check.ARGUMENT, () -> y.frame(wrong, 5));
            Check.refused("high " + wrong, Check.ARGUMENT, () -> y.frame(5, wrong));
            Check.refused("both " + wrong, Check.ARGUMENT, () -> y.frame(wrong, wrong));
        }
    }

    private static void uniformsFromMemory() {
        Check.sentence("so many uniforms from n on get four words each of memory from there on");
        DrawCommands x = Check.of(6, 30, 2, 4088, 6, 0, 1, 4092, 6, 29, 0, 4088, 6, 0, 0, 0);
        Check.memory(x, 4088, 1, 2, 3, 4, LEAST, MOST, -1, 8);
        Check.done("the last two", x, 6);
        Check.kept(x, 5, 30, 30, 1, 2, 3, 4);
        Check.kept(x, 5, 31, 31, LEAST, MOST, -1, 8);
        Check.kept(x, 5, 29, 29, 0, 0, 0, 0);
        Check.done("the first", x, 6);
        Check.kept(x, 5, 0, 0, LEAST, MOST, -1, 8);
        Check.kept(x, 5, 1, 1, 0, 0, 0, 0);
        Check.done("none", x, 6);
        Check.kept(x, 5, 29, 29, 0, 0, 0, 0);
        Check.kept(x, 5, 30, 30, 1, 2, 3, 4);
        Check.done("none", x, 6);
        Check.kept(x, 5, 0, 0, LEAST, MOST, -1, 8);
        x.word(4088, 77);
        Check.kept(x, 5, 30, 30, 1, 2, 3, 4);
        DrawCommands y = Check.of(6, 0, 32, 3968);
        for (int i = 0; i < 128; i++) {
            y.word(3968 + i, 1000 + i);
        }
        Check.done("all of them", y, 6);
        for (int n = 0; n < 32; n++) {
            int first = 1000 + 4 * n;
            Check.kept(y, 5, n, n, first, first + 1, first + 2, first + 3);
        }
    }

    private static void goingOn() {
        Check.sentence("GOING ON does the next command, from the stream's first word on.");
        DrawCommands x = Check.of(15, 1, 22, 3, 1, 2, 3, 4, 14, 6);
        Check.doneAt("the first", x, 15, 0, 0);
        Check.kept(x, 3, 0, 0, 0, -1, 0);
        Check.doneAt("one without arguments", x, 22, 2, 0);
        Check.doneAt("behind it", x, 3, 3, 0);
        Check.kept(x, 14, 0, -1);
        Check.doneAt("the last", x, 14, 8, 0);
        Check.same("not over yet", x.about(0), 0);
        Check.put(x, 15, 3);
        Check.doneAt("one that came later", x, 15, 10, 0);
    }

    private static void call() {
        Check.sentence("CALL goes to a word of memory; commands come from there, up to an END,"
            + " behind which it goes on behind the CALL");
        DrawCommands x = Check.of(23, 10, 15, 3);
        Check.memory(x, 10, 15, 1, 23, 20, 15, 2, 0, 99);
        Check.memory(x, 20, 14, 5, 0, 99);
        int[][] due = {{23, 0, 0}, {15, 10, 1}, {23, 12, 1}, {14, 20, 2}, {0, 22, 2},
            {15, 14, 1}, {0, 16, 1}, {15, 2, 0}, {0, 4, 0}};
        for (int[] d : due) {
            Check.same("not over yet", x.about(0), 0);
            Check.doneAt("command at " + d[1], x, d[0], d[1], d[2]);
        }
        Check.same("over", x.about(0), 1);
        DrawCommands y = Check.of(23, 0, 23, 4095);
        Check.doneAt("the first word", y, 23, 0, 0);
        Check.doneAt("an END there", y, 0, 0, 1);
        Check.same("an END of a list does not end it all", y.about(0), 0);
        Check.doneAt("the last word", y, 23, 2, 0);
        Check.doneAt("an END there", y, 0, 4095, 1);
        Check.same("not over yet", y.about(0), 0);
        Check.doneAt("the end of the stream's words", y, 0, 4, 0);
        Check.same("over", y.about(0), 1);
        DrawCommands z = Check.inList(10, 15, 1, 99);
        Check.doneAt("the list's first", z, 15, 10, 1);
        z.word(12, 22);
        Check.doneAt("a word that changed in the meantime", z, 22, 12, 1);
        z.put(14);
        z.put(2);
        Check.doneAt("the list's END", z, 0, 13, 1);
        Check.doneAt("what came behind the CALL in the meantime", z, 14, 2, 0);
    }

    /** Four calls deep, with the words at 40 to be done next. */
    private static DrawCommands deep(int... words) {
        DrawCommands x = Check.of(23, 10, 22);
        Check.memory(x, 10, 23, 20, 22);
        Check.memory(x, 20, 23, 30, 22);
        Check.memory(x, 30, 23, 40, 22);
        Check.memory(x, 40, words);
        for (int i = 0; i < 4; i++) {
            Check.doneAt("call " + i, x, 23, 10 * i, i);
        }
        return x;
    }

    private static void callsMayBeFourDeep() {
        Check.sentence("calls may be four deep");
        DrawCommands x = deep(15, 4, 0);
        Check.doneAt("four deep", x, 15, 40, 4);
        Check.doneAt("END of the fourth", x, 0, 42, 4);
        for (int depth = 3; depth > 0; depth--) {
            Check.doneAt("behind the call", x, 22, 10 * depth + 2, depth);
            Check.doneAt("END of list " + depth, x, 0, 10 * depth + 3, depth);
        }
        Check.doneAt("behind the first call", x, 22, 2, 0);
        Check.doneAt("the stream's end", x, 0, 3, 0);
        DrawCommands y = deep(0);
        y.word(32, 23);
        y.word(33, 50);
        Check.doneAt("back to three deep", y, 0, 40, 4);
        Check.doneAt("deeper again", y, 23, 32, 3);
        Check.doneAt("four deep again", y, 0, 50, 4);
        DrawCommands z = Check.of(23, 10, 23, 10, 23, 10, 23, 10, 23, 10, 23, 10);
        for (int i = 0; i < 6; i++) {
            Check.doneAt("calls one behind another", z, 23, 2 * i, 0);
            Check.doneAt("their ENDs", z, 0, 10, 1);
        }
    }

    private static void endInTheStream() {
        Check.sentence("In the stream END ends it all");
        DrawCommands x = Check.of(0, 15, 3);
        Check.doneAt("END", x, 0, 0, 0);
        Check.abouts("END", x, 1, 0, 0, 0, 1, -1, 3);
        Check.refused("behind it", Check.STATE, () -> x.next());
        Check.kept(x, 15, 0, 15);
        DrawCommands y = Check.of(23, 9, 0, 22);
        y.next();
        y.next();
        Check.doneAt("END behind a call", y, 0, 2, 0);
        Check.same("over", y.about(0), 1);
        DrawCommands z = Check.of(19, 3, 1, 0);
        z.next();
        Check.done("END with a query open", z, 0);
        Check.same("the query stays open", z.about(5), 3);
    }

    private static void endOfTheWords() {
        Check.sentence("so does the end of its words, where a command would begin (that is done as an END)");
        DrawCommands x = new DrawCommands();
        Check.doneAt("an empty stream", x, 0, 0, 0);
        Check.abouts("an empty stream", x, 1, 0, 0, 0, 1, -1, 0);
        Check.refused("no argument", Check.INDEX, () -> x.argument(0));
        Check.refused("behind it", Check.STATE, () -> x.next());
        Check.same("a word that came too late", x.put(22), 1);
        Check.refused("over all the same", Check.STATE, () -> x.next());
        DrawCommands y = Check.of(22, 15, 3);
        y.next();
        y.next();
        Check.doneAt("behind the last command", y, 0, 3, 0);
        Check.abouts("behind the last command", y, 1, 0, 3, 0, 3, -1, 3);
        Check.refused("behind it", Check.STATE, () -> y.next());
        Check.refusal("the end within a command is none", Check.of(15), 1, 0, 0);
    }

    private static void runIsOver() {
        Check.sentence("A command is REFUSED, and the run is over");
        DrawCommands x = Check.of(22, 26, 22);
        x.next();
        Check.refusal("in the stream", x, 2, 1, 0);
        x.begin(true);
        Check.abouts("begun anew", x, 0, 0, -1, -1, 0, -1, 3);
        Check.doneAt("the first again", x, 22, 0, 0);
        Check.refusal("refused again", x, 2, 1, 0);
        x.clear();
        Check.abouts("cleared", x, 0, 0, -1, -1, 0, -1, 0);
        Check.doneAt("the empty stream", x, 0, 0, 0);
        DrawCommands y = Check.inList(30, 22, 26);
        y.next();
        Check.refusal("in a list", y, 2, 31, 1);
        y.begin(true);
        Check.doneAt("the first again", y, 23, 0, 0);
        Check.refusal("four deep", deep(26), 2, 40, 4);
    }

    private static void firstNumberThatIsSo() {
        Check.sentence("with the first of these numbers that is so");
        Check.refusal("kind, and nothing behind it", Check.of(26), 2, 0, 0);
        Check.refusal("kind at memory's end", Check.inList(4095, 26), 2, 4095, 1);
        Check.refusal("cut before value", Check.of(10, 8), 1, 0, 0);
        Check.refusal("cut before value in a list", Check.inList(4094, 10, 8), 1, 4094, 1);
        Check.refusal("cut before a STORE's value", Check.of(21, -1, 1), 1, 0, 0);
        Check.refusal("cut before place", Check.of(7, 4096), 1, 0, 0);
        Check.refusal("cut before a STORE's place", Check.of(21, 4096, 1), 1, 0, 0);
        Check.refusal("cut before state", Check.of(17, 0, 0), 1, 0, 0);
        Check.refusal("value before UNIFORMS' place", Check.of(6, 31, 33, 0), 3, 0, 0);
        Check.refusal("value before UNIFORMS' words", Check.of(6, 32, 1, 4096), 3, 0, 0);
        Check.refusal("value before a program's place", Check.of(7, 4096, 257), 3, 0, 0);
        Check.refusal("value before COPY's frame", Check.of(20, 1, 1, 1, 1, 0, 3), 3, 0, 0);
        Check.refusal("value before COPY's words", Check.of(20, 0, 0, 1, 1, 4096, -1), 3, 0, 0);
        Check.refusal("value before STORE's place", Check.of(21, Table.FAR + 1, 1, 9), 3, 0, 0);
        Check.refusal("value before CALL's place", Check.of(23, Table.FAR + 1), 3, 0, 0);
        Check.refusal("value before DRAW's state", Check.of(17, 3, 0, 0), 3, 0, 0);
        Check.refusal("value before DRAW BY INDEX's state", Check.of(18, 0, 0, 0, 3, 0), 3, 0, 0);
        Check.refusal("value before QUERY's state", Check.of(19, 8, 0), 3, 0, 0);
        Check.refusal("value before CALL's state", deep(23, -1), 3, 40, 4);
        Check.refusal("place before CALL's state", deep(23, 4096), 5, 40, 4);
    }

    private static void noSuchKind() {
        Check.sentence("2 KIND: there is no such kind.");
        for (int kind : new int[] {-1, 26, 27, 255, 256, MOST, LEAST}) {
            Check.refusal("kind " + kind, Check.of(kind, 0, 0, 0, 0, 0, 0), 2, 0, 0);
            Check.refusal("kind " + kind + " in a list", Check.inList(9, kind), 2, 9, 1);
        }
        Check.done("the last kind", Check.of(25, 0, 0, 0, 0, 0), 25);
        Check.done("the first kind", Check.of(0), 0);
    }

    private static void cutByTheStream() {
        Check.sentence("1 CUT: a word of it is beyond the stream");
        Check.refusal("a kind alone", Check.of(15), 1, 0, 0);
        Check.refusal("one word short", Check.of(3, 1, 2, 3), 1, 0, 0);
        Check.done("not one word short", Check.of(3, 1, 2, 3, 4), 3);
        DrawCommands x = Check.of(22, 15);
        x.next();
        Check.refusal("behind another", x, 1, 1, 0);
        x.put(3);
        Check.refused("a word that came too late", Check.STATE, () -> x.next());
        x.begin(true);
        x.next();
        Check.doneAt("whole now", x, 15, 1, 0);
        DrawCommands y = Check.of(22, 15);
        y.next();
        y.put(3);
        Check.doneAt("a word that came in time", y, 15, 1, 0);
        DrawCommands z = Check.of(15, 7, 15, 7);
        z.clear();
        z.put(15);
        Check.refusal("words from before clear() are none", z, 1, 0, 0);
    }

    private static void cutByMemory() {
        Check.sentence("or (in a list) beyond memory");
        Check.refusal("the kind alone", Check.inList(4095, 15), 1, 4095, 1);
        Check.refusal("one word short", Check.inList(4092, 3, 1, 2, 3), 1, 4092, 1);
        DrawCommands x = Check.inList(4091, 3, 1, 2, 3, 4);
        Check.doneAt("memory's last words", x, 3, 4091, 1);
        Check.same("the last word", x.argument(3), 4);
        DrawCommands y = Check.inList(50, 15, 3, 0);
        Check.doneAt("a list is not cut by a stream that is shorter", y, 15, 50, 1);
        Check.refusal("a CALL cut", Check.inList(4095, 23), 1, 4095, 1);
    }

    private static void cutKindInAList() {
        Check.sentence("(also its kind, in a list");
        DrawCommands x = Check.inList(4094, 15, 3);
        Check.doneAt("memory's last words", x, 15, 4094, 1);
        Check.refusal("the kind beyond memory", x, 1, 4096, 1);
        DrawCommands y = Check.inList(4095, 22);
        Check.doneAt("memory's last word", y, 22, 4095, 1);
        Check.refusal("the kind beyond memory", y, 1, 4096, 1);
        DrawCommands z = Check.inList(4094, 23, 0);
        Check.doneAt("a CALL by memory's last words", z, 23, 4094, 1);
        Check.doneAt("its list's END", z, 0, 0, 2);
        Check.refusal("behind that CALL", z, 1, 4096, 1);
    }

    private static int[] store(int many, int words) {
        int[] row = new int[3 + words];
        row[0] = 21;
        row[2] = many;
        for (int i = 0; i < words; i++) {
            row[3 + i] = 500 + i;
        }
        return row;
    }

    private static void cutStore() {
        Check.sentence("STORE has so many words as many tells, but not below 0 or above 256)");
        Check.refusal("alone", Check.of(21), 1, 0, 0);
        Check.refusal("without many", Check.of(21, 0), 1, 0, 0);
        Check.done("many 0", Check.of(21, 0, 0), 21);
        Check.refusal("many 1, cut", Check.of(store(1, 0)), 1, 0, 0);
        Check.done("many 1", Check.of(store(1, 1)), 21);
        Check.refusal("many 2, cut", Check.of(store(2, 1)), 1, 0, 0);
        Check.refusal("many -1 has no words", Check.of(store(-1, 0)), 3, 0, 0);
        Check.refusal("the least many has no words", Check.of(store(LEAST, 0)), 3, 0, 0);
        Check.refusal("many 256, cut", Check.of(store(256, 255)), 1, 0, 0);
        Check.refusal("many 257, cut at 255", Check.of(store(257, 255)), 1, 0, 0);
        Check.refusal("many 257, 256 words", Check.of(store(257, 256)), 3, 0, 0);
        Check.refusal("the greatest many, cut at 255", Check.of(store(MOST, 255)), 1, 0, 0);
        Check.refusal("the greatest many, 256 words", Check.of(store(MOST, 256)), 3, 0, 0);
        DrawCommands x = Check.of(store(256, 256));
        x.put(22);
        Check.done("many 256", x, 21);
        Check.same("the last word", x.argument(257), 755);
        Check.refused("no word more", Check.INDEX, () -> x.argument(258));
        Check.doneAt("behind its words", x, 22, 259, 0);
        Check.refusal("cut by memory's end", Check.inList(4090, 21, 0, 4, 1, 2, 3), 1, 4090, 1);
        Check.doneAt("up to memory's end", Check.inList(4090, 21, 0, 3, 1, 2, 3), 21, 4090, 1);
        Check.refusal("its many beyond memory", Check.inList(4094, 21, 0), 1, 4094, 1);
        Check.refusal("many above 256 at memory's end", Check.inList(3838, 21, 0, 257), 1, 3838, 1);
        Check.refusal("many above 256 just before it", Check.inList(3837, 21, 0, 257), 3, 3837, 1);
    }

    private static void valueThatMayNotBe() {
        Check.sentence("3 VALUE: an argument that may not be so.");
        Check.refusal("in the stream", Check.of(15, 16), 3, 0, 0);
        Check.refusal("in a list", Check.inList(9, 15, -1), 3, 9, 1);
        Check.refusal("the first of several", Check.of(11, 2, 0, 0, 0, 0, 0, 0, 0), 3, 0, 0);
        Check.refusal("the last of several", Check.of(11, 0, 0, 0, 0, 0, 0, 0, 8), 3, 0, 0);
        Check.refusal("one in the midst", Check.of(2, 0, 0, 0, 1, 0, 0), 3, 0, 0);
        Check.done("a STORE's words may be any", Check.of(21, 0, 2, LEAST, MOST), 21);
    }

    private static void uniformsPass32() {
        Check.sentence("5 PLACE: in UNIFORMS n and many pass 32");
        Check.done("all", Check.of(6, 0, 32, 0), 6);
        Check.refusal("one too many", Check.of(6, 1, 32, 0), 5, 0, 0);
        Check.done("the last", Check.of(6, 31, 1, 0), 6);
        Check.refusal("one behind the last", Check.of(6, 31, 2, 0), 5, 0, 0);
        Check.done("the last half", Check.of(6, 16, 16, 0), 6);
        Check.refusal("one more than a half", Check.of(6, 16, 17, 0), 5, 0, 0);
        Check.done("none at the last", Check.of(6, 31, 0, 0), 6);
        Check.refusal("in a list", Check.inList(700, 6, 30, 3, 0), 5, 700, 1);
    }

    private static void uniformsWords() {
        Check.sentence("or their words are not in memory");
        Check.done("one up to memory's end", Check.of(6, 0, 1, 4092), 6);
        Check.refusal("one beyond it", Check.of(6, 0, 1, 4093), 5, 0, 0);
        Check.refusal("one wholly beyond it", Check.of(6, 0, 1, 4096), 5, 0, 0);
        Check.refusal("one far beyond it", Check.of(6, 0, 1, Table.FAR), 5, 0, 0);
        Check.done("all up to memory's end", Check.of(6, 0, 32, 3968), 6);
        Check.refusal("all, one word beyond it", Check.of(6, 0, 32, 3969), 5, 0, 0);
        Check.done("none has no words", Check.of(6, 0, 0, Table.FAR), 6);
    }

    private static void programsWords() {
        Check.sentence("a program's 3 times many words are not");
        for (int kind = 7; kind <= 8; kind++) {
            Check.done("a short one to memory's end", Check.of(kind, 4093, 1), kind);
            Check.refusal("one word beyond it", Check.of(kind, 4094, 1), 5, 0, 0);
            Check.done("a long one to memory's end", Check.of(kind, 3328, 256), kind);
            Check.refusal("a long one, one word beyond it", Check.of(kind, 3329, 256), 5, 0, 0);
            Check.refusal("wholly beyond it", Check.of(kind, 4096, 1), 5, 0, 0);
            Check.refusal("far beyond it", Check.of(kind, Table.FAR, 256), 5, 0, 0);
            Check.refusal("in a list", Check.inList(5, kind, 4094, 1), 5, 5, 1);
        }
    }

    private static DrawCommands copy(int wide, int high, int... arguments) {
        DrawCommands x = Check.of(20);
        Check.put(x, arguments);
        x.frame(wide, high);
        return x;
    }

    private static void copysRectangle() {
        Check.sentence("COPY's rectangle is not in the frame");
        Check.done("the whole new frame", Check.of(20, 0, 0, 1, 1, 0, 0), 20);
        Check.refusal("wider than a new frame", Check.of(20, 0, 0, 2, 1, 0, 0), 5, 0, 0);
        Check.refusal("higher than a new frame", Check.of(20, 0, 0, 1, 2, 0, 0), 5, 0, 0);
        Check.refusal("beside a new frame", Check.of(20, 1, 0, 1, 1, 0, 0), 5, 0, 0);
        Check.refusal("above a new frame", Check.of(20, 0, 1, 1, 1, 0, 0), 5, 0, 0);
        Check.done("the whole frame", copy(7, 5, 0, 0, 7, 5, 0, 1), 20);
        Check.refusal("one too wide", copy(7, 5, 0, 0, 8, 5, 0, 1), 5, 0, 0);
        Check.refusal("one too high", copy(7, 5, 0, 0, 7, 6, 0, 1), 5, 0, 0);
        Check.done("in the corner", copy(7, 5, 4, 3, 3, 2, 0, 1), 20);
        Check.refusal("one too far right", copy(7, 5, 5, 3, 3, 2, 0, 1), 5, 0, 0);
        Check.refusal("one too far up", copy(7, 5, 4, 4, 3, 2, 0, 1), 5, 0, 0);
        Check.done("the greatest frame's last place", copy(128, 128, 127, 127, 1, 1, 0, 0), 20);
        Check.refusal("beside it", copy(128, 128, 127, 127, 2, 1, 0, 0), 5, 0, 0);
        Check.refusal("above it", copy(128, 128, 127, 127, 1, 2, 0, 0), 5, 0, 0);
        Check.refusal("far beside it", copy(128, 128, 127, 0, 128, 1, 0, 0), 5, 0, 0);
    }

    private static void copysWords() {
        Check.sentence("or its wide times high words are not in memory");
        Check.done("one place to the last word", Check.of(20, 0, 0, 1, 1, 4095, 0), 20);
        Check.refusal("one place beyond it", Check.of(20, 0, 0, 1, 1, 4096, 0), 5, 0, 0);
        Check.refusal("one place far beyond it", Check.of(20, 0, 0, 1, 1, Table.FAR, 0), 5, 0, 0);
        Check.done("up to memory's end", copy(7, 5, 0, 0, 7, 5, 4061, 2), 20);
        Check.refusal("one word beyond it", copy(7, 5, 0, 0, 7, 5, 4062, 2), 5, 0, 0);
        Check.done("all of memory", copy(128, 128, 0, 0, 128, 32, 0, 0), 20);
        Check.done("all of memory, upright", copy(128, 128, 0, 0, 32, 128, 0, 0), 20);
        Check.refusal("all of memory, one on", copy(128, 128, 0, 0, 128, 32, 1, 0), 5, 0, 0);
        Check.refusal("more than memory", copy(128, 128, 0, 0, 128, 33, 0, 0), 5, 0, 0);
        Check.refusal("the greatest frame", copy(128, 128, 0, 0, 128, 128, 0, 0), 5, 0, 0);
    }

    private static void storesWords() {
        Check.sentence("STORE's words are not");
        Check.done("one at the end", Check.of(21, 4095, 1, 9), 21);
        Check.refusal("one beyond the end", Check.of(21, 4096, 1, 9), 5, 0, 0);
        Check.done("two at the end", Check.of(21, 4094, 2, 9, 9), 21);
        Check.refusal("two over the end", Check.of(21, 4095, 2, 9, 9), 5, 0, 0);
        Check.refusal("far beyond the end", Check.of(21, Table.FAR, 1, 9), 5, 0, 0);
        Check.done("none beyond the end", Check.of(21, 4096, 0), 21);
        Check.done("none far beyond the end", Check.of(21, Table.FAR, 0), 21);
        int[] most = store(256, 256);
        most[1] = 3840;
        Check.done("256 up to the end", Check.of(most), 21);
        most[1] = 3841;
        Check.refusal("256 over the end", Check.of(most), 5, 0, 0);
    }

    private static void callsWord() {
        Check.sentence("CALL's word is not");
        Check.done("the last word", Check.of(23, 4095), 23);
        Check.refusal("behind it", Check.of(23, 4096), 5, 0, 0);
        Check.refusal("far behind it", Check.of(23, Table.FAR), 5, 0, 0);
        Check.refusal("in a list", Check.inList(8, 23, 4096), 5, 8, 1);
    }

    private static void drawWithoutPrograms() {
        Check.sentence("6 STATE: a DRAW without a program for corners or for places");
        int[][] draws = {{17, 0, 0, 0}, {18, 0, 0, 0, 0, 0}};
        for (int[] words : draws) {
            Check.refusal("no program", Check.of(words), 6, 0, 0);
            Check.refusal("no program, in a list", Check.inList(9, words), 6, 9, 1);
            for (int kind = 7; kind <= 8; kind++) {
                DrawCommands x = Check.of(kind, 0, 1);
                Check.put(x, words);
                x.next();
                Check.refusal("only program " + kind, x, 6, 3, 0);
            }
            DrawCommands y = Check.of(8, 0, 1, 7, 4093, 1);
            Check.put(y, words);
            y.next();
            y.next();
            Check.done("both programs", y, words[0]);
            y.clear();
            Check.put(y, words);
            Check.done("both programs behind clear()", y, words[0]);
            y.begin(true);
            Check.done("both programs kept", y, words[0]);
            y.begin(false);
            Check.refusal("both programs forgotten", y, 6, 0, 0);
        }
    }

    private static void queryBegins() {
        Check.sentence("QUERY begins, and one is open");
        for (int n : new int[] {0, 7}) {
            DrawCommands x = Check.of(19, n, 1, 19, n, 1);
            Check.done("begins", x, 19);
            Check.same("open", x.about(5), n);
            Check.refusal("the same begins", x, 6, 3, 0);
            DrawCommands y = Check.of(19, n, 1, 19, 7 - n, 1);
            y.next();
            Check.refusal("another begins", y, 6, 3, 0);
        }
        DrawCommands z = Check.of(19, 2, 1, 19, 2, 0, 19, 2, 1);
        z.next();
        z.next();
        Check.done("begins behind its end", z, 19);
        Check.same("open again", z.about(5), 2);
    }

    private static void queryEnds() {
        Check.sentence("or ends, and that one isn't");
        Check.refusal("none was ever open", Check.of(19, 0, 0), 6, 0, 0);
        Check.refusal("none was ever open", Check.of(19, 7, 0), 6, 0, 0);
        DrawCommands x = Check.of(19, 2, 1, 19, 1, 0);
        x.next();
        Check.refusal("another is open", x, 6, 3, 0);
        DrawCommands y = Check.of(19, 2, 1, 19, 2, 0, 19, 2, 0);
        y.next();
        Check.done("ends", y, 19);
        Check.same("none open", y.about(5), -1);
        Check.refusal("ends again", y, 6, 6, 0);
        DrawCommands z = Check.of(23, 9, 19, 0, 0);
        Check.memory(z, 9, 19, 0, 1, 0);
        z.next();
        Check.done("begins in a list", z, 19);
        z.next();
        Check.done("ends behind it", z, 19);
    }

    private static void callFourDeep() {
        Check.sentence("CALL, and calls are four deep.");
        Check.refusal("a fifth CALL", deep(23, 0), 6, 40, 4);
        DrawCommands x = Check.inList(10, 23, 10);
        for (int depth = 1; depth < 4; depth++) {
            Check.doneAt("a list that calls itself", x, 23, 10, depth);
        }
        Check.refusal("a list that calls itself", x, 6, 10, 4);
        x.begin(true);
        for (int i = 0; i < 4; i++) {
            Check.done("begun anew, no call is open", x, 23);
        }
        x.clear();
        Check.put(x, 23, 10);
        for (int i = 0; i < 4; i++) {
            Check.done("cleared, no call is open", x, 23);
        }
    }

    private static void keptByHolder() {
        Check.sentence("of 4 by attribute, of 5 and 6 by uniform, of 9, 24 and 25 by unit, of 11 by side");
        DrawCommands x = Check.of(4, 0, 10, 11, 3, 1, 4, 7, 20, 21, 4, 2, 5, 0, 1, 2, 3, 4, 5, 31, 5, 6, 7, 8,
            9, 0, 30, 5, 6, 7, 1, 9, 3, 31, 6, 7, 8, 2, 11, 0, 3, 4, 5, 6, 7, 1, 2, 11, 1, -1, 1, 2, 3, 4, 5, 6,
            24, 0, 1, 2, 3, 24, 3, 3, 2, 1, 25, 0, 9, 8, 7, 6, 25, 3, -9, -8, -7, -6);
        for (int i = 0; i < 12; i++) {
            x.next();
        }
        Check.kept(x, 4, 0, 0, 10, 11, 3, 1);
        Check.kept(x, 4, 1, 1, 0, 0, 0, 0);
        Check.kept(x, 4, 6, 6, 0, 0, 0, 0);
        Check.kept(x, 4, 7, 7, 20, 21, 4, 2);
        Check.kept(x, 5, 0, 0, 1, 2, 3, 4);
        Check.kept(x, 5, 1, 1, 0, 0, 0, 0);
        Check.kept(x, 5, 30, 30, 0, 0, 0, 0);
        Check.kept(x, 5, 31, 31, 5, 6, 7, 8);
        Check.kept(x, 9, 0, 0, 30, 5, 6, 7, 1);
        Check.kept(x, 9, 1, 1, 0, 0, 0, 1, 0);
        Check.kept(x, 9, 3, 3, 31, 6, 7, 8, 2);
        Check.kept(x, 11, 0, 0, 3, 4, 5, 6, 7, 1, 2);
        Check.kept(x, 11, 1, 1, -1, 1, 2, 3, 4, 5, 6);
        Check.kept(x, 24, 0, 0, 1, 2, 3);
        Check.kept(x, 24, 2, 2, 0, 0, 0);
        Check.kept(x, 24, 3, 3, 3, 2, 1);
        Check.kept(x, 25, 0, 0, 9, 8, 7, 6);
        Check.kept(x, 25, 1, 1, 0, 0, 0, 0);
        Check.kept(x, 25, 3, 3, -9, -8, -7, -6);
        x.clear();
        Check.put(x, 5, 31, 9, 9, 9, 9, 6, 0, 1, 50, 6, 31, 1, 50, 5, 0, 8, 8, 8, 8);
        x.next();
        Check.kept(x, 5, 31, 31, 9, 9, 9, 9);
        x.next();
        Check.kept(x, 5, 0, 0, 0, 0, 0, 0);
        x.next();
        Check.kept(x, 5, 31, 31, 0, 0, 0, 0);
        x.next();
        Check.kept(x, 5, 0, 0, 8, 8, 8, 8);
    }

    private static void storePutsItsWords() {
        Check.sentence("STORE puts its words into memory.");
        DrawCommands x = Check.of(21, 4093, 3, LEAST, -1, MOST, 21, 0, 1, 7, 21, 0, 0);
        Check.done("at the end", x, 21);
        Check.done("at the beginning", x, 21);
        Check.done("none", x, 21);
        int[] due = {0, LEAST, -1, MOST};
        for (int i = 0; i < due.length; i++) {
            Check.same("word " + (4092 + i), x.word(4092 + i, 0), due[i]);
        }
        Check.same("word 0", x.word(0, 0), 7);
        Check.same("word 1", x.word(1, 0), 0);
        DrawCommands y = Check.inList(100, 21, 102, 4, 15, 9, 22, 22, 99, 0);
        Check.done("over its own words", y, 21);
        int[] own = {102, 4, 15, 9, 22, 22};
        for (int k = 0; k < own.length; k++) {
            Check.same("argument " + k, y.argument(k), own[k]);
        }
        int[] stored = {21, 102, 15, 9, 22, 22, 22, 99, 0};
        for (int i = 0; i < stored.length; i++) {
            Check.same("word " + (100 + i), y.word(100 + i, stored[i]), stored[i]);
        }
        y.word(107, 22);
        Check.doneAt("behind its own words", y, 22, 107, 1);
        DrawCommands w = Check.inList(100, 21, 104, 4, 1, 2, 3, 4, 22, 0);
        Check.done("over its own words, one on", w, 21);
        int[] onward = {104, 4, 1, 2, 3, 4};
        for (int k = 0; k < onward.length; k++) {
            Check.same("argument " + k, w.argument(k), onward[k]);
        }
        int[] moved = {21, 104, 4, 1, 1, 2, 3, 4, 0};
        for (int i = 0; i < moved.length; i++) {
            Check.same("word " + (100 + i), w.word(100 + i, moved[i]), moved[i]);
        }
        DrawCommands z = Check.inList(100, 21, 104, 1, 22, 99);
        Check.done("over the next command", z, 21);
        Check.doneAt("the stored one", z, 22, 104, 1);
    }

    /** Each kept kind is told once, then told wrongly and told cut: the first telling stays. */
    private static void refusedTellsNothing() {
        Check.sentence("A command that is refused tells nothing.");
        for (int kind = 0; kind < Table.KINDS; kind++) {
            int many = Table.arguments(kind);
            for (int k = 0; k < many && Table.holders(kind) > 0; k++) {
                if (!Table.isAny(kind, k)) {
                    toldThenRefused(kind, k, Table.most(kind, k) + 1, 3, many);
                }
                toldThenRefused(kind, k, Table.most(kind, k), 1, k);
            }
        }
        DrawCommands x = Check.of(6, 30, 3, 0);
        Check.memory(x, 0, 1, 2, 3, 4);
        Check.refusal("UNIFORMS that pass 32", x, 5, 0, 0);
        Check.kept(x, 5, 30, 30, 0, 0, 0, 0);
        DrawCommands y = Check.of(6, 0, 2, 4092);
        Check.memory(y, 4092, 1, 2, 3, 4);
        Check.refusal("UNIFORMS beyond memory", y, 5, 0, 0);
        Check.kept(y, 5, 0, 0, 0, 0, 0, 0);
        DrawCommands z = Check.of(21, 4094, 3, 5, 6, 7);
        Check.refusal("STORE over memory's end", z, 5, 0, 0);
        Check.same("word 4094", z.word(4094, 0), 0);
        Check.same("word 4095", z.word(4095, 0), 0);
        DrawCommands w = Check.of(21, 0, 3, 5, 6);
        Check.refusal("STORE cut", w, 1, 0, 0);
        Check.same("word 0", w.word(0, 0), 0);
        for (int kind = 7; kind <= 8; kind++) {
            DrawCommands v = Check.of(kind, 4096, 2);
            Check.refusal("a program beyond memory", v, 5, 0, 0);
            Check.kept(v, kind, 0, -1, 0);
        }
    }

    private static void toldThenRefused(int kind, int wrong, int v, int number, int words) {
        int many = Table.arguments(kind);
        DrawCommands x = Check.of(kind);
        int[] told = new int[many];
        for (int k = 0; k < many; k++) {
            told[k] = Table.least(kind, k);
            x.put(told[k]);
        }
        x.put(kind);
        for (int k = 0; k < words; k++) {
            x.put(k == wrong ? v : k == 0 && Table.holders(kind) > 1 ? told[0] : Table.least(kind, k) + 1);
        }
        String what = "kind " + kind + " argument " + wrong;
        Check.done(what, x, kind);
        Check.refusal(what, x, number, 1 + many, 0);
        Check.kept(x, kind, 0, told);
    }

    private static void refusedStateTellsNothing() {
        Check.sentence("A command that is refused tells nothing. (of queries and calls)");
        DrawCommands x = Check.of(19, 8, 1);
        Check.refusal("no such query", x, 3, 0, 0);
        Check.same("none open", x.about(5), -1);
        DrawCommands y = Check.of(19, 4, 1, 19, 5, 0);
        y.next();
        Check.refusal("another ends", y, 6, 3, 0);
        Check.same("still open", y.about(5), 4);
        DrawCommands z = Check.of(19, 4, 1, 19, 5, 1);
        z.next();
        Check.refusal("another begins", z, 6, 3, 0);
        Check.same("still open", z.about(5), 4);
        DrawCommands w = deep(23, 0);
        Check.refusal("a fifth CALL", w, 6, 40, 4);
        Check.same("still four deep", w.about(3), 4);
    }
}
