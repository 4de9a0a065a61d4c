/** Counts answers that are not as due; a test ends by end(). */
final class Check {
    static final int INDEX = 1;
    static final int ARGUMENT = 2;
    static final int UNSUPPORTED = 3;
    static final int STATE = 4;

    /** A call whose throwing is looked at. */
    interface Call {
        void run();
    }

    private static int wrong = 0;
    private static int looked = 0;

    private Check() {
    }

    static void same(String what, long got, long due) {
        looked++;
        if (got != due) {
            wrong++;
            System.out.println(what + " answered " + got + ", due is " + due);
        }
    }

    static void refused(String what, int due, Call call) {
        same(what + " throws", thrown(call), due);
    }

    private static int thrown(Call call) {
        try {
            call.run();
            return 0;
        } catch (RuntimeException e) {
            Class<?> c = e.getClass();
            return c == IndexOutOfBoundsException.class ? INDEX
                : c == IllegalArgumentException.class ? ARGUMENT
                : c == UnsupportedOperationException.class ? UNSUPPORTED
                : c == IllegalStateException.class ? STATE : 9;
        }
    }

    static void end() {
        System.out.println(looked + " answers looked at, " + wrong + " not as due");
        if (wrong != 0 || looked == 0) {
            System.exit(1);
        }
    }

    /** A new object whose stream holds the words. */
    static DrawCommands of(int... words) {
        DrawCommands x = new DrawCommands();
        put(x, words);
        return x;
    }

    static void put(DrawCommands x, int... words) {
        for (int v : words) {
            x.put(v);
        }
    }

    static void memory(DrawCommands x, int from, int... words) {
        for (int i = 0; i < words.length; i++) {
            x.word(from + i, words[i]);
        }
    }

    /** The next command is refused with the number, at the place and depth. */
    static void refusal(String what, DrawCommands x, int number, int place, int depth) {
        int done = x.about(4);
        same(what + " next()", x.next(), DrawCommands.NONE);
        same(what + " about(0)", x.about(0), 1);
        same(what + " about(1)", x.about(1), number);
        same(what + " about(2)", x.about(2), place);
        same(what + " about(3)", x.about(3), depth);
        same(what + " about(4)", x.about(4), done);
        refused(what + " argument(0)", INDEX, () -> x.argument(0));
        refused(what + " next() again", STATE, () -> x.next());
    }

    /** The next command is done, and is of the kind. */
    static void done(String what, DrawCommands x, int kind) {
        int before = x.about(4);
        same(what + " next()", x.next(), kind);
        same(what + " about(1)", x.about(1), 0);
        same(what + " about(4)", x.about(4), before + 1);
    }
}
