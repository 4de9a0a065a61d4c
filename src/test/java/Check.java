/** Counts answers that are not as due; a test ends by end(). */
final class Check {
    static final int INDEX = 1;
    static final int ARGUMENT = 2;
    static final int UNSUPPORTED = 3;
    static final int STATE = 4;

    /** A call whose throwing is looked at. */
    interface Call {
        void run();
    }

    private static String sentence = "";
    private static int sentences = 0;
    private static int wrong = 0;
    private static int looked = 0;

    private Check() {
    }

    /** What is looked at from here on is what this sentence of the document says. */
    static void sentence(String words) {
        sentence = words;
        sentences++;
    }

    static void same(String what, long got, long due) {
        looked++;
        if (got != due) {
            wrong++;
            System.out.println(what + " answered " + got + ", due is " + due
                + (sentence.isEmpty() ? "" : " (\"" + sentence + "\")"));
        }
    }

    static void refused(String what, int due, Call call) {
        same(what + " throws", thrown(call), due);
    }

    private static int thrown(Call call) {
        try {
            call.run();
            return 0;
        } catch (RuntimeException e) {
            Class<?> c = e.getClass();
            return c == IndexOutOfBoundsException.class ? INDEX
                : c == IllegalArgumentException.class ? ARGUMENT
                : c == UnsupportedOperationException.class ? UNSUPPORTED
                : c == IllegalStateException.class ? STATE : 9;
        }
    }

    static void end() {
        System.out.println((sentences == 0 ? "" : sentences + " sentences, ")
            + looked + " answers looked at, " + wrong + " not as due");
        if (wrong != 0 || looked == 0) {
            System.exit(1);
        }
    }

    /** A new object whose stream holds the words. */
    static DrawCommands of(int... words) {
        DrawCommands x = new DrawCommands();
        put(x, words);
        return x;
    }

    static void put(DrawCommands x, int... words) {
        for (int v : words) {
            x.put(v);
        }
    }

    static void memory(DrawCommands x, int from, int... words) {
        for (int i = 0; i < words.length; i++) {
            x.word(from + i, words[i]);
        }
    }

    /** A new object one call deep: the words at a place of memory are to be done next. */
    static DrawCommands inList(int from, int... words) {
        DrawCommands x = of(23, from);
        memory(x, from, words);
        done("the CALL", x, 23);
        return x;
    }

    /** The next command is refused with the number, at the place and depth. */
    static void refusal(String what, DrawCommands x, int number, int place, int depth) {
        int done = x.about(4);
        int query = x.about(5);
        same(what + " next()", x.next(), DrawCommands.NONE);
        abouts(what, x, 1, number, place, depth, done, query);
        refused(what + " argument(0)", INDEX, () -> x.argument(0));
        refused(what + " next() again", STATE, () -> x.next());
    }

    /** The next command is done, and is of the kind. */
    static void done(String what, DrawCommands x, int kind) {
        int before = x.about(4);
        same(what + " next()", x.next(), kind);
        same(what + " about(1)", x.about(1), 0);
        same(what + " about(4)", x.about(4), before + 1);
    }

    static void doneAt(String what, DrawCommands x, int kind, int place, int depth) {
        done(what, x, kind);
        same(what + " about(2)", x.about(2), place);
        same(what + " about(3)", x.about(3), depth);
    }

    /** What about() tells from 0 on. */
    static void abouts(String what, DrawCommands x, int... due) {
        for (int i = 0; i < due.length; i++) {
            same(what + " about(" + i + ")", x.about(i), due[i]);
        }
    }

    static void kept(DrawCommands x, int kind, int n, int... due) {
        for (int k = 0; k < due.length; k++) {
            same("kept(" + kind + ", " + n + ", " + k + ")", x.kept(kind, n, k), due[k]);
        }
    }
}
