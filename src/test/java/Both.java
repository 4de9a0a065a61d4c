import java.util.function.IntSupplier;

/** An object and its model, told the same: each call's answer, or what it throws, is held against the model's. */
final class Both {
    /** For so many calls the document speaks of an object. */
    private static final int PROMISED_CALLS = 512;

    private final String name;
    private final DrawCommands object = new DrawCommands();
    private final Model model = new Model();
    private final StringBuilder story = new StringBuilder();
    private int calls;
    private boolean astray;

    Both(String name) {
        this.name = name;
    }

    /** Whether so many calls more are still within what is promised. */
    boolean has(int more) {
        return !astray && calls + more <= PROMISED_CALLS;
    }

    void word(int place, int v) {
        compare("word(" + place + ", " + v + ")", () -> object.word(place, v), () -> model.word(place, v));
    }

    void frame(int wide, int high) {
        compare("frame(" + wide + ", " + high + ")", () -> {
            object.frame(wide, high);
            return 0;
        }, () -> {
            model.frame(wide, high);
            return 0;
        });
    }

    void put(int v) {
        compare("put(" + v + ")", () -> object.put(v), () -> model.put(v));
    }

    void clear() {
        compare("clear()", () -> {
            object.clear();
            return 0;
        }, () -> {
            model.clear();
            return 0;
        });
    }

    void begin(boolean keeps) {
        compare("begin(" + keeps + ")", () -> {
            object.begin(keeps);
            return 0;
        }, () -> {
            model.begin(keeps);
            return 0;
        });
    }

    void next() {
        compare("next()", object::next, model::next);
    }

    void argument(int k) {
        compare("argument(" + k + ")", () -> object.argument(k), () -> model.argument(k));
    }

    void kept(int kind, int n, int k) {
        compare("kept(" + kind + ", " + n + ", " + k + ")", () -> object.kept(kind, n, k),
            () -> model.kept(kind, n, k));
    }

    void about(int what) {
        compare("about(" + what + ")", () -> object.about(what), () -> model.about(what));
    }

    /** All that is kept, with all that about() tells: 310 calls. */
    void lookAtAll() {
        for (int what = 0; what < 7; what++) {
            about(what);
        }
        for (int kind = 0; kind < Table.KINDS; kind++) {
            for (int n = 0; n < Table.holders(kind); n++) {
                for (int k = 0; k < Table.arguments(kind); k++) {
                    kept(kind, n, k);
                }
            }
        }
    }

    /** What the model alone tells: a look that is no call of the object. */
    Model model() {
        return model;
    }

    private void compare(String call, IntSupplier ofObject, IntSupplier ofModel) {
        if (!has(1)) {
            return;
        }
        calls++;
        String got = answer(ofObject);
        String due = answer(ofModel);
        story.append(call).append(' ').append(due).append("; ");
        astray = !got.equals(due);
        Check.same(name + ": " + call + " answered " + got + ", due is " + due
            + (astray ? ", behind " + story : "") + ": astray", astray ? 1 : 0, 0);
    }

    private static String answer(IntSupplier call) {
        try {
            return Integer.toString(call.getAsInt());
        } catch (RuntimeException e) {
            return "throws." + e.getClass().getSimpleName();
        }
    }
}
