/** The document's table of kinds, written out anew: what each argument may be, and what is kept of it untold. */
final class Table {
    static final int KINDS = 26;
    static final int FAR = 1 << 20;

    /** A row a kind: how many of it are kept side by side, then each argument as "least..most=untold". */
    private static final String[] ROWS = {
        "0",
        "0 0..7=0 any=0 0..16777215=0 0..255=0",
        "1 -1023..1023=0 -1023..1023=0 1..1024=1 1..1024=1 0..16777215=0 0..16777215=16777215",
        "1 any=0 any=0 any=-1 any=0",
        "8 0..7=n 0..1048576=0 0..1024=0 0..4=0 0..3=0",
        "32 0..31=n any=0 any=0 any=0 any=0",
        "0 0..31=0 0..32=0 0..1048576=0",
        "1 0..1048576=-1 1..256=0",
        "1 0..1048576=-1 1..256=0",
        "4 0..3=n 0..1048576=0 0..10=0 0..10=0 1..11=1 0..7=0",
        "1 -1..7=-1 0..1=0",
        "2 0..1=n -1..7=-1 0..255=0 0..255=0 0..255=0 0..7=0 0..7=0 0..7=0",
        "1 0..14=0 0..14=0 0..14=0 0..14=0 -1..4=-1 0..4=0",
        "1 any=0",
        "1 -1..15=-1",
        "1 0..15=15",
        "1 0..3=0 0..1=0",
        "0 0..2=0 0..1048576=0 0..4096=0",
        "0 0..2=0 0..1048576=0 0..4096=0 0..2=0 any=0",
        "0 0..7=0 0..1=0",
        "0 0..127=0 0..127=0 1..128=0 1..128=0 0..1048576=0 0..2=0",
        "0 0..1048576=0 0..256=0",
        "0",
        "0 0..1048576=0",
        "4 0..3=n 0..3=0 0..3=0 0..3=0",
        "4 0..3=n any=0 any=0 any=0 any=0",
    };

    private static final String[][] CELLS = new String[KINDS][];

    static {
        for (int kind = 0; kind < KINDS; kind++) {
            CELLS[kind] = ROWS[kind].split(" ");
        }
    }

    private Table() {
    }

    static boolean isKind(int kind) {
        return kind >= 0 && kind < KINDS;
    }

    /** How many are kept of a kind; 0 if it is not kept. */
    static int holders(int kind) {
        return Integer.parseInt(CELLS[kind][0]);
    }

    /** How many arguments a kind has, but for the words of a STORE. */
    static int arguments(int kind) {
        return CELLS[kind].length - 1;
    }

    static boolean isAny(int kind, int k) {
        return CELLS[kind][1 + k].startsWith("any");
    }

    static int least(int kind, int k) {
        return isAny(kind, k) ? Integer.MIN_VALUE : Integer.parseInt(CELLS[kind][1 + k].split("\\.\\.|=")[0]);
    }

    static int most(int kind, int k) {
        return isAny(kind, k) ? Integer.MAX_VALUE : Integer.parseInt(CELLS[kind][1 + k].split("\\.\\.|=")[1]);
    }

    static int untold(int kind, int n, int k) {
        String text = CELLS[kind][1 + k].split("=")[1];
        return text.equals("n") ? n : Integer.parseInt(text);
    }
}
