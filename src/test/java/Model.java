import java.util.ArrayDeque;
import java.util.ArrayList;
import java.util.Deque;
import java.util.HashMap;
import java.util.List;
import java.util.Map;

/** The document said once more, as plainly as the Java library lets it be: what DrawCommands is held against. */
final class Model {
    private final int[] memory = new int[4096];
    private final List<Integer> stream = new ArrayList<>();
    private final Map<List<Integer>, Integer> told = new HashMap<>();
    private final Deque<Integer> backs = new ArrayDeque<>();
    private int wide = 1;
    private int high = 1;
    private int at;
    private boolean over;
    private int refusal;
    private int lastPlace = -1;
    private int lastDepth = -1;
    private int done;
    private int open = -1;
    private List<Integer> last = List.of();

    int word(int place, int v) {
        if (place < 0 || place > 4095) {
            throw new IndexOutOfBoundsException();
        }
        int was = memory[place];
        memory[place] = v;
        return was;
    }

    void frame(int newWide, int newHigh) {
        if (Math.min(newWide, newHigh) < 1 || Math.max(newWide, newHigh) > 128) {
            throw new IllegalArgumentException();
        }
        wide = newWide;
        high = newHigh;
    }

    int put(int v) {
        if (stream.size() == 4096) {
            throw new UnsupportedOperationException();
        }
        stream.add(v);
        return stream.size();
    }

    void clear() {
        stream.clear();
        begin(true);
    }

    void begin(boolean keeps) {
        if (!keeps) {
            told.clear();
        }
        backs.clear();
        at = 0;
        over = false;
        refusal = 0;
        lastPlace = -1;
        lastDepth = -1;
        done = 0;
        open = -1;
        last = List.of();
    }

    int next() {
        if (over) {
            throw new IllegalStateException();
        }
        lastPlace = at;
        lastDepth = backs.size();
        List<Integer> words = new ArrayList<>();
        refusal = done == 2000 ? 7 : read(words);
        if (refusal == 0) {
            refusal = !valuesFit(words) ? 3 : !placesFit(words) ? 5 : !stateFits(words) ? 6 : 0;
        }
        if (refusal != 0) {
            over = true;
            last = List.of();
            return -1;
        }
        done++;
        last = words.subList(1, words.size());
        tell(words);
        return words.get(0);
    }

    int argument(int k) {
        if (k < 0 || k >= last.size()) {
            throw new IndexOutOfBoundsException();
        }
        return last.get(k);
    }

    int kept(int kind, int n, int k) {
        if (!Table.isKind(kind) || n < 0 || n >= Table.holders(kind) || k < 0 || k >= Table.arguments(kind)) {
            throw new IllegalArgumentException();
        }
        return told.getOrDefault(List.of(kind, n, k), Table.untold(kind, n, k));
    }

    int about(int what) {
        if (what < 0 || what > 6) {
            throw new IllegalArgumentException();
        }
        return new int[] {over ? 1 : 0, refusal, lastPlace, lastDepth, done, open, stream.size()}[what];
    }

    /** The word at a place of the list or stream that is gone through; null beyond it. */
    private Integer wordAt(int place) {
        if (!backs.isEmpty()) {
            return place < 4096 ? memory[place] : null;
        }
        return place < stream.size() ? stream.get(place) : null;
    }

    private int read(List<Integer> words) {
        Integer kind = wordAt(at);
        if (kind == null && backs.isEmpty()) {
            words.add(0);
            return 0;
        }
        if (kind == null) {
            return 1;
        }
        if (!Table.isKind(kind)) {
            return 2;
        }
        words.add(kind);
        int due = 1 + Table.arguments(kind);
        while (words.size() < due) {
            Integer word = wordAt(at + words.size());
            if (word == null) {
                return 1;
            }
            words.add(word);
            if (kind == 21 && words.size() == 3) {
                due = 3 + (word < 0 ? 0 : word > 256 ? 256 : word);
            }
        }
        return 0;
    }

    private static boolean valuesFit(List<Integer> words) {
        int kind = words.get(0);
        for (int k = 0; k < Table.arguments(kind); k++) {
            int v = words.get(1 + k);
            if (v < Table.least(kind, k) || v > Table.most(kind, k)) {
                return false;
            }
        }
        return true;
    }

    private static boolean areWords(int from, int many) {
        for (int i = 0; i < many; i++) {
            if (from + i > 4095) {
                return false;
            }
        }
        return true;
    }

    private boolean placesFit(List<Integer> w) {
        switch (w.get(0)) {
            case 6: return w.get(1) + w.get(2) <= 32 && areWords(w.get(3), 4 * w.get(2));
            case 7:
            case 8: return areWords(w.get(1), 3 * w.get(2));
            case 20: return w.get(1) + w.get(3) <= wide && w.get(2) + w.get(4) <= high
                && areWords(w.get(5), w.get(3) * w.get(4));
            case 21: return areWords(w.get(1), w.get(2));
            case 23: return areWords(w.get(1), 1);
            default: return true;
        }
    }

    private boolean stateFits(List<Integer> w) {
        switch (w.get(0)) {
            case 17:
            case 18: return told.containsKey(List.of(7, 0, 0)) && told.containsKey(List.of(8, 0, 0));
            case 19: return w.get(2) == 1 ? open == -1 : open == w.get(1);
            case 23: return backs.size() < 4;
            default: return true;
        }
    }

    private void tell(List<Integer> w) {
        int kind = w.get(0);
        at += w.size();
        if (kind == 0) {
            over = backs.isEmpty();
            at = over ? at : backs.pop();
        } else if (kind == 6) {
            for (int i = 0; i < 4 * w.get(2); i++) {
                told.put(List.of(5, w.get(1) + i / 4, 1 + i % 4), memory[w.get(3) + i]);
            }
        } else if (kind == 19) {
            open = w.get(2) == 1 ? w.get(1) : -1;
        } else if (kind == 21) {
            for (int i = 0; i < w.get(2); i++) {
                memory[w.get(1) + i] = w.get(3 + i);
            }
        } else if (kind == 23) {
            backs.push(at);
            at = w.get(1);
        } else {
            for (int k = 0; k < last.size(); k++) {
                told.put(List.of(kind, Table.holders(kind) > 1 ? w.get(1) : 0, k), w.get(1 + k));
            }
        }
    }
}
