/** Texts and rows of acts told shortly, for the tests of the project. */
final class Cages {
    static final int UNKNOWN = -1, BAD = -2, LATE = -3, FULL = -4, NONE = -9;
    /** Seven parts, the most there are, and the most poles. */
    static final String SEVEN = "I9Pa0Pb1Pc2Pd3Pe0Pf1Pp2";

    private Cages() {
    }

    static void write(IdeaCage x, String text) {
        for (int i = 0; i < text.length(); i++) {
            x.write(text.charAt(i));
        }
    }

    static IdeaCage written(String text) {
        IdeaCage x = new IdeaCage();
        write(x, text);
        return x;
    }

    static int anew(IdeaCage x, String text) {
        x.wipe();
        write(x, text);
        return x.idea();
    }

    static IdeaCage made(String text) {
        IdeaCage x = new IdeaCage();
        if (anew(x, text) < 0) {
            throw new IllegalStateException("no idea: " + text);
        }
        return x;
    }

    /** The columns are told as figures. */
    static void put(IdeaCage x, String columns) {
        for (int i = 0; i < columns.length(); i++) {
            x.put(columns.charAt(i) - '0');
        }
    }

    static void strike(IdeaCage x, String columns) {
        for (int i = 0; i < columns.length(); i++) {
            x.strike(columns.charAt(i) - '0');
        }
    }

    static void rain(IdeaCage x, int times) {
        for (int i = 0; i < times; i++) {
            x.rain();
        }
    }

    /** A pole comes to the cell and goes again, with all that are below it. */
    static void visit(IdeaCage x, int cell) {
        int column = cell % 4;
        while (x.column(column) <= cell / 4 && x.put(column) >= 0) {
        }
        while (x.strike(column) >= 0) {
        }
    }

    static String columns(IdeaCage x) {
        return "" + x.column(0) + x.column(1) + x.column(2) + x.column(3);
    }
}
