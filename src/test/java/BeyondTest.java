/**
 * The limits that no object can meet in the 512 calls of which the document
 * speaks: a full stream and 2000 commands. They are kept all the same.
 */
public final class BeyondTest {
    public static void main(String[] args) {
        fullStream();
        endOfAFullStream();
        cutByAFullStream();
        tooLong();
        longBeforeTheOthers();
        Check.end();
    }

    private static DrawCommands filled(int words, int v) {
        DrawCommands x = new DrawCommands();
        for (int i = 1; i <= words; i++) {
            Check.same("put", x.put(v), i);
        }
        return x;
    }

    private static void fullStream() {
        Check.sentence("UnsupportedOperationException if there are 4096.");
        DrawCommands x = filled(4095, 22);
        Check.same("the last word", x.put(22), 4096);
        Check.same("about(6)", x.about(6), 4096);
        Check.refused("one more", Check.UNSUPPORTED, () -> x.put(1));
        Check.refused("one more again", Check.UNSUPPORTED, () -> x.put(22));
        Check.same("about(6) still", x.about(6), 4096);
        Check.doneAt("the first word still", x, 22, 0, 0);
        Check.refused("one more in the run", Check.UNSUPPORTED, () -> x.put(1));
        x.begin(false);
        Check.refused("one more behind begin()", Check.UNSUPPORTED, () -> x.put(1));
        x.clear();
        Check.same("about(6) behind clear()", x.about(6), 0);
        Check.same("the first word anew", x.put(15), 1);
        Check.same("the second word anew", x.put(4), 2);
        Check.doneAt("the new words", x, 15, 0, 0);
        Check.doneAt("their end", x, 0, 2, 0);
    }

    /** STOREs of 253 words each take 256 of the stream: sixteen of them fill it. */
    private static DrawCommands filledByStores(int lastMany) {
        DrawCommands x = new DrawCommands();
        for (int i = 0; i < 16; i++) {
            Check.put(x, 21, 256 * i, i == 15 ? lastMany : 253);
            for (int k = 0; k < 253; k++) {
                x.put(k + i);
            }
        }
        Check.refused("one more", Check.UNSUPPORTED, () -> x.put(1));
        for (int i = 0; i < 15; i++) {
            Check.doneAt("STORE " + i, x, 21, 256 * i, 0);
        }
        return x;
    }

    private static void endOfAFullStream() {
        Check.sentence("so does the end of its words, where a command would begin (of a full stream)");
        DrawCommands x = filledByStores(253);
        Check.doneAt("the last STORE", x, 21, 3840, 0);
        Check.same("the last word", x.argument(254), 267);
        Check.same("the last word in memory", x.word(4092, 0), 267);
        Check.doneAt("the full stream's end", x, 0, 4096, 0);
        Check.same("over", x.about(0), 1);
    }

    private static void cutByAFullStream() {
        Check.sentence("1 CUT: a word of it is beyond the stream (of a full stream)");
        Check.refusal("the last STORE", filledByStores(254), 1, 3840, 0);
    }

    private static void tooLong() {
        Check.sentence("7 LONG: 2000 commands were done.");
        DrawCommands x = filled(2001, 22);
        for (int i = 0; i < 1999; i++) {
            x.next();
        }
        Check.doneAt("the 2000th", x, 22, 1999, 0);
        Check.same("2000 done", x.about(4), 2000);
        Check.same("not over", x.about(0), 0);
        Check.refusal("the 2001st", x, 7, 2000, 0);
        x.begin(true);
        Check.abouts("begun anew", x, 0, 0, -1, -1, 0, -1, 2001);
        Check.doneAt("from 0 anew", x, 22, 0, 0);
    }

    private static DrawCommands done2000(int... then) {
        DrawCommands x = Check.of(23, 0);
        for (int place = 0; place < 1999; place++) {
            x.word(place, 22);
        }
        Check.memory(x, 1999, then);
        for (int i = 0; i < 2000; i++) {
            x.next();
        }
        Check.same("2000 done", x.about(4), 2000);
        return x;
    }

    private static void longBeforeTheOthers() {
        Check.sentence("with the first of these numbers that is so: 7 LONG");
        Check.refusal("before kind", done2000(26), 7, 1999, 1);
        Check.refusal("before value", done2000(15, 16), 7, 1999, 1);
        Check.refusal("before place", done2000(23, 4096), 7, 1999, 1);
        Check.refusal("before state", done2000(17, 0, 0, 0), 7, 1999, 1);
        Check.refusal("before an END", done2000(0), 7, 1999, 1);
        DrawCommands x = filled(2000, 22);
        for (int i = 0; i < 2000; i++) {
            x.next();
        }
        Check.refusal("before the end of the stream's words", x, 7, 2000, 0);
        DrawCommands y = filled(2000, 22);
        y.put(15);
        for (int i = 0; i < 2000; i++) {
            y.next();
        }
        Check.refusal("before cut", y, 7, 2000, 0);
    }
}
