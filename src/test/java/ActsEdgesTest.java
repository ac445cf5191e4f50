/** Promises 10 to 13, acts, and what stands: each sentence that names a boundary case, by itself. */
public final class ActsEdgesTest {
    private static final int UNKNOWN = -1, LATE = -3, FULL = -4;
    private static final int[] NO_COLUMNS = {-1, 4, Integer.MIN_VALUE, 1 << 30, Integer.MAX_VALUE};
    /** f holds all the others, once their poles are struck. */
    private static final String TREE = "I9Pf0Pi2Pj0Pk2Pm0Pn0Po0";
    private static final Due DUE = new Due();

    public static void main(String[] args) {
        putIsUnknown();
        putIsLate();
        putIsFull();
        putTellsTheFirstRefusal();
        aPoleComesToEachCell();
        putTellsHowManyAreHad();
        strikeIsUnknown();
        strikeIsLate();
        theStoreHasItAgain();
        strikeTellsHowManyAreLost();
        partsOnTheGroundStand();
        everyKindInEveryCell();
        nothingStandsByItself();
        rainTakesAirsWithoutPoles();
        rainTellsHowManyAreLost();
        rainsAreNotBounded();
        undoIsLate();
        undoGivesAllBack();
        fourteenActsAtMost();
        theFirstOneIsForgotten();
        theFirstPutIsForgotten();
        undoMakesRoom();
        undoLeavesTheRest();
        refusedActsAreNoActs();
        DUE.end();
    }

    private static void is(String call, long got, long want) {
        DUE.is(call, got, want);
    }

    // ---- 10 put

    private static void putIsUnknown() {
        DUE.sentence("Promise 10: UNKNOWN");
        IdeaCage x = Cages.made("I9Pa0Pd0");
        for (int column : NO_COLUMNS) {
            is("put(" + column + ")", x.put(column), UNKNOWN);
        }
        is("about(1)", x.about(1), 9);
        is("put(0)", x.put(0), 1);
        is("put(3)", x.put(3), 2);
    }

    private static void putIsLate() {
        DUE.sentence("Promise 10: LATE: THE STORE is empty");
        for (int s = 0; s <= 9; s++) {
            IdeaCage x = Cages.made("I" + s);
            for (int put = 0; put < s; put++) {
                is("put " + put + " of " + s, x.put(put % 4), 0);
            }
            is("about(1)", x.about(1), 0);
            for (int column = 0; column < 4; column++) {
                is("put(" + column + ") of an empty store", x.put(column), LATE);
            }
            is("about(2)", x.about(2), s);
            is("about(6)", x.about(6), s);
        }
    }

    private static void putIsFull() {
        DUE.sentence("Promise 10: FULL: there are 4");
        for (int column = 0; column < 4; column++) {
            IdeaCage x = Cages.made("I9");
            for (int pole = 0; pole < 4; pole++) {
                is("put(" + column + ")", x.put(column), 0);
            }
            is("put(" + column + ") on 4", x.put(column), FULL);
            is("put(" + column + ") on 4 again", x.put(column), FULL);
            is("column(" + column + ")", x.column(column), 4);
            is("about(1)", x.about(1), 5);
            is("put beside it", x.put((column + 1) % 4), 0);
            x.strike(column);
            is("put behind a strike", x.put(column), 0);
        }
    }

    private static void putTellsTheFirstRefusal() {
        DUE.sentence("Promise 10: UNKNOWN; LATE; FULL: of several what is told first");
        IdeaCage x = Cages.made("I4");
        Cages.put(x, "0000");
        is("put(4), the store is empty", x.put(4), UNKNOWN);
        is("put(-1), the store is empty", x.put(-1), UNKNOWN);
        is("put(0) on 4, the store is empty", x.put(0), LATE);
        IdeaCage more = Cages.made("I5");
        Cages.put(more, "0000");
        is("put(0) on 4, one is left", more.put(0), FULL);
    }

    private static void aPoleComesToEachCell() {
        DUE.sentence("POLES stand one on another, in its CELLS from LIFT 0 up; PUT: a PART in that CELL is HAD");
        for (int cell = 0; cell < 16; cell++) {
            IdeaCage x = Cages.made("I9P" + (char) ('a' + cell) + "1");
            for (int column = 0; column < 4; column++) {
                for (int lift = 0; lift < 4 && column != cell % 4; lift++) {
                    is("a put beside it", x.put(column), 0);
                }
                Cages.strike(x, ("" + column).repeat(4));
            }
            for (int lift = 0; lift < 4; lift++) {
                is("put for cell " + cell, x.put(cell % 4), lift >= cell / 4 ? 1 : 0);
            }
        }
    }

    private static void putTellsHowManyAreHad() {
        DUE.sentence("Promise 10: how many PARTS are HAD (none .. 7)");
        IdeaCage x = Cages.made("I9Pa0Pb0Pc0Pd0Pe0Pf0Pg0");
        String columns = "0123012";
        for (int i = 0; i < 7; i++) {
            is("put " + i, x.put(columns.charAt(i) - '0'), i + 1);
        }
        is("put where there is none", x.put(3), 7);
        is("had already", x.strike(0), 0);
        is("put where it is had", x.put(0), 7);
        is("without parts", Cages.made("I1").put(0), 0);
    }

    // ---- 11 strike

    private static void strikeIsUnknown() {
        DUE.sentence("Promise 11: UNKNOWN");
        IdeaCage x = Cages.made("I9");
        Cages.put(x, "0123");
        for (int column : NO_COLUMNS) {
            is("strike(" + column + ")", x.strike(column), UNKNOWN);
        }
        is("about(2)", x.about(2), 4);
        is("strike(0)", x.strike(0), 0);
        is("strike(3)", x.strike(3), 0);
        is("of several the first", x.strike(4), UNKNOWN);
    }

    private static void strikeIsLate() {
        DUE.sentence("Promise 11: LATE: there is none");
        for (int column = 0; column < 4; column++) {
            IdeaCage x = Cages.made("I9");
            Cages.put(x, "0123".replace("" + column, ""));
            is("strike(" + column + ") of none", x.strike(column), LATE);
            x.put(column);
            is("strike(" + column + ")", x.strike(column), 0);
            is("strike(" + column + ") of none again", x.strike(column), LATE);
            is("about(1)", x.about(1), 6);
        }
    }

    private static void theStoreHasItAgain() {
        DUE.sentence("STRUCK: the top POLE of a COLUMN is in THE STORE again");
        IdeaCage x = Cages.made("I4Pa0Pe0Pi0Pm0");
        Cages.put(x, "0000");
        for (int poles = 3; poles >= 0; poles--) {
            is("strike(0)", x.strike(0), 0);
            is("about(1)", x.about(1), 4 - poles);
            is("column(0)", x.column(0), poles);
            for (int part = 0; part < 4; part++) {
                is("the pole in lift " + part, x.part(part, 3), part < poles ? 1 : 0);
            }
        }
    }

    private static IdeaCage tree() {
        IdeaCage x = Cages.made(TREE);
        Cages.put(x, "1111");
        Cages.strike(x, "11");
        Cages.put(x, "0000");
        Cages.strike(x, "0000");
        Cages.put(x, "2222");
        Cages.strike(x, "2222");
        return x;
    }

    private static void strikeTellsHowManyAreLost() {
        DUE.sentence("Promise 11: how many PARTS are LOST by it (none .. 7)");
        IdeaCage x = tree();
        is("about(3)", x.about(3), 127);
        is("strike(1): all fall with f", x.strike(1), 7);
        is("about(3)", x.about(3), 0);
        is("strike(1)", x.strike(1), 0);
        IdeaCage one = Cages.made("I2Pe0Pa0");
        Cages.put(one, "00");
        is("a falls not", one.strike(0), 0);
        IdeaCage alone = Cages.made("I2Pe0");
        Cages.put(alone, "00");
        is("e falls", alone.strike(0), 1);
    }

    // ---- what stands

    private static void partsOnTheGroundStand() {
        DUE.sentence("A PART that is HAD STANDS, if a POLE is in its CELL, or it is in LIFT 0 (0 .. 3)");
        for (int cell = 0; cell < 16; cell++) {
            for (int kind = 0; kind < 3; kind++) {
                IdeaCage x = Cages.made("I9P" + (char) ('a' + cell) + kind);
                for (int pole = 0; pole <= cell / 4; pole++) {
                    x.put(cell % 4);
                }
                is("cell " + cell + " with its pole", x.about(3), 1);
                is("cell " + cell + " without", x.strike(cell % 4), cell < 4 ? 0 : 1);
            }
        }
    }

    /** The places about a cell, as told for what is tried: 1 below, 2 left, 4 right, 8, 16 askew. */
    private static final int[] STEPS = {-4, -1, 1, -5, -3};

    /** The number is there and it is in the lift where it should be. */
    private static boolean isThere(int cell, int place) {
        int other = cell + STEPS[place];
        int lift = place == 1 || place == 2 ? cell / 4 : cell / 4 - 1;
        return other >= 0 && other < 16 && other / 4 == lift;
    }

    private static boolean due(int cell, int kind, int about) {
        boolean[] there = new boolean[5];
        for (int place = 0; place < 5; place++) {
            there[place] = (about >> place & 1) == 1 && isThere(cell, place);
        }
        if (cell < 4 || kind == 3) return true;
        if (kind == 0) return there[0];
        if (kind == 1) return there[1] && there[2];
        return there[0] || there[3] || there[4];
    }

    /** Airs by number about a cell, also where the number is in another lift: left is of its LIFT. */
    private static void everyKindInEveryCell() {
        DUE.sentence("PLAIN: below; KEY: left and right; STAIR: below, left or right of that; AIR: always (of its LIFT)");
        for (int cell = 0; cell < 16; cell++) {
            for (int about = 0; about < 32; about++) {
                for (int kind = 0; kind < 4; kind++) {
                    oneKindInOneCell(cell, kind, about);
                }
            }
        }
    }

    private static void oneKindInOneCell(int cell, int kind, int about) {
        StringBuilder text = new StringBuilder("I9P").append((char) ('a' + cell)).append(kind);
        int airs = 0;
        for (int place = 0; place < 5; place++) {
            int other = cell + STEPS[place];
            if ((about >> place & 1) == 1 && other >= 0 && other < 16) {
                text.append('P').append((char) ('a' + other)).append('3');
                airs++;
            }
        }
        IdeaCage x = Cages.made(text.toString());
        for (int air = 1; air <= airs; air++) {
            Cages.visit(x, x.part(air, 0));
        }
        Cages.visit(x, cell);
        int all = (1 << airs + 1) - 1;
        is("had of " + text, x.about(3), due(cell, kind, about) ? all : all - 1);
        is("left of " + text, x.about(5), due(cell, kind, about) ? all : all - 1);
    }

    private static void nothingStandsByItself() {
        DUE.sentence("None STANDS but by what stands on the ground, on a POLE, or is an AIR, in the end");
        // f and g are keys that lean on each other between airs: without a pole at either both fall.
        IdeaCage x = Cages.made("I9Pe3Pf1Pg1Ph3");
        Cages.put(x, "00");
        Cages.strike(x, "00");
        Cages.put(x, "33");
        Cages.strike(x, "33");
        Cages.put(x, "1122");
        is("about(3)", x.about(3), 15);
        is("about(5)", x.about(5), 9);
        is("strike(1): f stands by g", x.strike(1), 0);
        is("strike(2): both fall", x.strike(2), 2);
        is("about(3)", x.about(3), 9);
    }

    // ---- 12 rain

    private static void rainTakesAirsWithoutPoles() {
        DUE.sentence("RAINED: AIRS in whose CELL there is no POLE are LOST");
        for (int cell = 0; cell < 16; cell++) {
            IdeaCage x = Cages.made("I9P" + (char) ('a' + cell) + "3");
            is("rain() before it is had", x.rain(), 0);
            for (int pole = 0; pole <= cell / 4; pole++) {
                x.put(cell % 4);
            }
            is("rain() on its pole", x.rain(), 0);
            is("strike", x.strike(cell % 4), 0);
            is("rain() without", x.rain(), 1);
            is("rain() again", x.rain(), 0);
            is("about(3)", x.about(3), 0);
            is("about(4)", x.about(4), 4);
            is("had again", x.put(cell % 4), 1);
        }
        for (int kind = 0; kind < 3; kind++) {
            IdeaCage dry = Cages.made("I1Pa" + kind);
            Cages.visit(dry, 0);
            is("rain() on no air", dry.rain(), 0);
            is("about(3)", dry.about(3), 1);
        }
    }

    private static void rainTellsHowManyAreLost() {
        DUE.sentence("Promise 12: how many PARTS are LOST by it (none .. 7); behind it what does not STAND is LOST");
        IdeaCage x = Cages.made("I9Pf3Pi2Pj0Pk2Pm0Pn0Po0");
        Cages.visit(x, 13);
        Cages.visit(x, 12);
        Cages.visit(x, 14);
        is("about(3)", x.about(3), 127);
        is("rain()", x.rain(), 7);
        is("about(3)", x.about(3), 0);
        IdeaCage poled = Cages.made("I9Pf3Pj0");
        Cages.put(poled, "111");
        poled.strike(1);
        is("rain() on the pole of f", poled.rain(), 0);
        poled.strike(1);
        is("rain(): f goes, and j with it", poled.rain(), 2);
    }

    private static void rainsAreNotBounded() {
        DUE.sentence("it RAINED once more (an object is used for at most 512 calls)");
        IdeaCage x = new IdeaCage();
        for (int rain = 1; rain <= 255; rain++) {
            is("rain()", x.rain(), 0);
            is("about(4)", x.about(4), rain);
        }
        is("about(6)", x.about(6), 14);
        IdeaCage y = new IdeaCage();
        Cages.rain(y, 511);
        is("the 512th call", y.about(4), 511);
    }

    // ---- 13 undo

    private static void undoIsLate() {
        DUE.sentence("Promise 13: LATE: there is none");
        IdeaCage x = Cages.made("I9Pa0");
        is("undo() of a new idea", x.undo(), LATE);
        x.put(0);
        is("undo()", x.undo(), 0);
        is("undo() again", x.undo(), LATE);
        is("about(1)", x.about(1), 9);
        x.put(0);
        x.keep(0);
        x.again(0);
        is("undo() when one goes on", x.undo(), LATE);
        is("about(2)", x.about(2), 1);
        x.put(0);
        x.idea();
        is("undo() of an idea made anew", x.undo(), LATE);
    }

    private static void undoGivesAllBack() {
        DUE.sentence("Promise 13: The last ACT is undone: how many are left");
        IdeaCage x = tree();
        is("about(6)", x.about(6), 14);
        is("strike(1)", x.strike(1), 7);
        is("undo() of a strike", x.undo(), 13);
        is("about(3)", x.about(3), 127);
        is("about(1)", x.about(1), 7);
        DUE.same("columns", Cages.columns(x), "0200");
        IdeaCage air = Cages.made("I2Pe3Pi0");
        Cages.put(air, "0");
        is("put", air.put(0), 1);
        is("undo() of a put", air.undo(), 1);
        is("about(3)", air.about(3), 0);
        is("about(1)", air.about(1), 1);
        Cages.visit(air, 4);
        int acts = air.about(6);
        is("rain()", air.rain(), 1);
        is("undo() of a rain", air.undo(), acts);
        is("about(3)", air.about(3), 1);
        is("about(4)", air.about(4), 0);
    }

    private static void fourteenActsAtMost() {
        DUE.sentence("ACTS are a row (14 at most)");
        IdeaCage x = Cages.made("I9");
        for (int act = 1; act <= 20; act++) {
            if (act % 3 == 0) {
                x.rain();
            } else if (act % 3 == 1) {
                x.put(1);
            } else {
                x.strike(1);
            }
            is("about(6)", x.about(6), Math.min(act, 14));
        }
        for (int left = 13; left >= 0; left--) {
            is("undo()", x.undo(), left);
        }
        is("undo() of none", x.undo(), LATE);
    }

    private static void theFirstOneIsForgotten() {
        DUE.sentence("ACTS: when it is full, the first one is forgotten");
        for (int more = 0; more <= 30; more++) {
            IdeaCage x = new IdeaCage();
            Cages.rain(x, 14 + more);
            for (int undone = 1; undone <= 14; undone++) {
                x.undo();
                is("rains after undo " + undone, x.about(4), 14 + more - undone);
            }
            is("undo() of none", x.undo(), LATE);
            is("about(4)", x.about(4), more);
        }
    }

    private static void theFirstPutIsForgotten() {
        DUE.sentence("ACTS: when it is full, the first one is forgotten (of puts and strikes)");
        IdeaCage x = Cages.made("I9Pa3Pf0Ph3");
        Cages.put(x, "001122333");
        Cages.strike(x, "3321001");
        DUE.same("columns", Cages.columns(x), "0011");
        is("about(6)", x.about(6), 14);
        undoneTo(x, "0111 1111 2111 2211 2221 2222 2223 2222 2221 2220 2210 2200 2100 2000".split(" "));
        is("undo() of none", x.undo(), LATE);
        is("two puts can not be undone", x.about(2), 2);
        is("what was had then", x.about(3), 1);
    }

    private static void undoneTo(IdeaCage x, String[] columns) {
        for (int i = 0; i < columns.length; i++) {
            is("undo()", x.undo(), columns.length - 1 - i);
            DUE.same("columns after undo " + i, Cages.columns(x), columns[i]);
        }
    }

    private static void undoMakesRoom() {
        DUE.sentence("ACTS: one that is undone is in the row no more");
        IdeaCage x = new IdeaCage();
        Cages.rain(x, 14);
        is("undo()", x.undo(), 13);
        x.rain();
        is("about(6)", x.about(6), 14);
        for (int left = 13; left >= 0; left--) {
            is("undo()", x.undo(), left);
        }
        is("none was forgotten", x.about(4), 0);
    }

    private static void undoLeavesTheRest() {
        DUE.sentence("Promise 13: The last ACT alone is undone");
        IdeaCage x = Cages.made("I3Pa0");
        x.put(0);
        x.attempt(3, 1);
        x.seed(8);
        x.keep(1);
        x.write('P');
        is("undo()", x.undo(), 0);
        is("about(0)", x.about(0), 1);
        is("about(7)", x.about(7), 1);
        is("about(8)", x.about(8), 6);
        is("seed(8)", x.seed(8), 8);
        is("again(1)", x.again(1), 1);
        is("again(0)", x.again(0), LATE);
    }

    private static void refusedActsAreNoActs() {
        DUE.sentence("What is refused changes nothing: it is no ACT");
        IdeaCage x = Cages.made("I5Pa0");
        Cages.put(x, "1111");
        is("put(1) on 4", x.put(1), FULL);
        is("put(7)", x.put(7), UNKNOWN);
        is("strike(0) of none", x.strike(0), LATE);
        is("strike(7)", x.strike(7), UNKNOWN);
        x.put(0);
        is("put(2) of an empty store", x.put(2), LATE);
        is("about(6)", x.about(6), 5);
        is("undo()", x.undo(), 4);
        DUE.same("columns", Cages.columns(x), "0400");
    }
}
