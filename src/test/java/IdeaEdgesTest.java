/** Promises 1 to 9, the idea: each sentence that names a boundary case, by itself. */
public final class IdeaEdgesTest {
    private static final int UNKNOWN = -1, BAD = -2, LATE = -3, FULL = -4, NONE = -9;
    private static final int[] FAR = {Integer.MIN_VALUE, -1000, 1000, Integer.MAX_VALUE};
    private static final Due DUE = new Due();

    public static void main(String[] args) {
        atFirstThereIsNothing();
        atFirstCallsAnswer();
        objectsShareNothing();
        aByteIs0To255();
        theTextIs32AtMost();
        badComesBeforeFull();
        wipeTellsHowLongItWas();
        wipedBytesAreGone();
        wipeLeavesTheIdea();
        everyByteAtEveryPlace();
        everyBeginning();
        whateverComesBehind();
        sevenPartsAtMost();
        aCellIsToldOnce();
        faultOfAFullText();
        ideaIsLateByAFault();
        ideaTellsPolesAndParts();
        ideaIsMadeAnew();
        whatWasKeptIsGone();
        triedAndSeedStay();
        fewerPartsThanBefore();
        aboutIsBad();
        aboutAtItsLeastAndMost();
        partIsUnknown();
        partIsBad();
        partAtItsLeastAndMost();
        columnIsUnknown();
        columnHas0To4();
        atIsUnknown();
        atTellsThePartOrNone();
        DUE.end();
    }

    private static void is(String call, long got, long want) {
        DUE.is(call, got, want);
    }

    // ---- 1 a new object

    private static void atFirstThereIsNothing() {
        DUE.sentence("At first there is nothing, THE STORE is 0");
        IdeaCage x = new IdeaCage();
        for (int what = 0; what <= 8; what++) {
            is("about(" + what + ")", x.about(what), 0);
        }
        for (int column = 0; column < 4; column++) {
            is("column(" + column + ")", x.column(column), 0);
        }
        for (int cell = 0; cell < 16; cell++) {
            is("at(" + cell + ")", x.at(cell), NONE);
        }
        is("seed(3)", x.seed(3), 0);
    }

    private static void atFirstCallsAnswer() {
        DUE.sentence("Promise 1: a new object: Nothing");
        IdeaCage x = new IdeaCage();
        is("wipe()", x.wipe(), 0);
        is("fault()", x.fault(), 0);
        is("idea()", x.idea(), LATE);
        is("part(0, 0)", x.part(0, 0), UNKNOWN);
        is("undo()", x.undo(), LATE);
        is("soon(0, 0)", x.soon(0, 0), 0);
        is("soon(0, 1)", x.soon(0, 1), 0);
        is("soon(1, 0)", x.soon(1, 0), BAD);
        is("judge(1, 300)", x.judge(1, 300), NONE);
        is("judge(1, 400)", x.judge(1, 400), 0);
        is("share(0, true)", x.share(0, true), UNKNOWN);
        is("unattempt()", x.unattempt(), 0);
        is("kinds(0)", x.kinds(0), 16);
        is("rests(0, 1, 0)", x.rests(0, 1, 0), 9);
        is("rests(0, 1, 1)", x.rests(0, 1, 1), 0);
        is("wet(0, 5, true)", x.wet(0, 5, true), 1);
        is("wet(1, 5, true)", x.wet(1, 5, true), 0);
        is("wet(1, 5, false)", x.wet(1, 5, false), 1);
        is("terms(30)", x.terms(30), 0);
        is("again(0)", x.again(0), LATE);
        is("again(1)", x.again(1), LATE);
        for (int column = 0; column < 4; column++) {
            is("put(" + column + ")", x.put(column), LATE);
            is("strike(" + column + ")", x.strike(column), LATE);
            is("loses(" + column + ")", x.loses(column), LATE);
            is("down(" + column + ")", x.down(column), 0);
        }
        is("rain()", x.rain(), 0);
        is("undo()", x.undo(), 0);
        is("keep(0)", x.keep(0), 0);
        is("again(0)", x.again(0), 0);
    }

    private static void objectsShareNothing() {
        DUE.sentence("Promise 1: a new object, beside one that was used");
        IdeaCage used = Cages.made(Cages.SEVEN);
        Cages.put(used, "001122");
        used.rain();
        used.attempt(1, 1);
        used.seed(5);
        used.keep(0);
        IdeaCage x = new IdeaCage();
        for (int what = 0; what <= 8; what++) {
            is("about(" + what + ")", x.about(what), 0);
        }
        is("again(0)", x.again(0), LATE);
        is("seed(0)", x.seed(0), 0);
        is("wipe()", x.wipe(), 0);
        is("the other: about(2)", used.about(2), 6);
        is("the other: about(8)", used.about(8), 23);
        is("the other: seed(0)", used.seed(0), 5);
    }

    // ---- 2 write

    private static void aByteIs0To255() {
        DUE.sentence("Promise 2: A byte (0 .. 255); BAD");
        IdeaCage x = new IdeaCage();
        for (int letter = 0; letter <= 255; letter++) {
            is("write(" + letter + ")", new IdeaCage().write(letter), 1);
        }
        is("write(-1)", x.write(-1), BAD);
        is("write(256)", x.write(256), BAD);
        // An int that is 'I' in its lowest byte is no byte.
        is("write(256 + 73)", x.write(256 + 73), BAD);
        for (int letter : FAR) {
            is("write(" + letter + ")", x.write(letter), BAD);
        }
        is("about(8)", x.about(8), 0);
    }

    private static void theTextIs32AtMost() {
        DUE.sentence("Promise 2: how long it is; FULL: there are 32");
        IdeaCage x = new IdeaCage();
        for (int length = 1; length <= 32; length++) {
            is("write", x.write('I'), length);
            is("about(8)", x.about(8), length);
        }
        is("write on 32", x.write('I'), FULL);
        is("write on 32 again", x.write(0), FULL);
        is("about(8)", x.about(8), 32);
        is("wipe()", x.wipe(), 32);
        is("write behind a wipe", x.write('I'), 1);
    }

    private static void badComesBeforeFull() {
        DUE.sentence("Promise 2: BAD; FULL: of several what is told first");
        IdeaCage x = new IdeaCage();
        for (int i = 0; i < 32; i++) {
            x.write('I');
        }
        is("write(256) on 32", x.write(256), BAD);
        is("write(-1) on 32", x.write(-1), BAD);
        is("write(255) on 32", x.write(255), FULL);
    }

    // ---- 3 wipe

    private static void wipeTellsHowLongItWas() {
        DUE.sentence("Promise 3: THE TEXT is empty: how long it was");
        IdeaCage x = new IdeaCage();
        is("wipe() of nothing", x.wipe(), 0);
        for (int length = 0; length <= 32; length++) {
            for (int i = 0; i < length; i++) {
                x.write('a');
            }
            is("wipe() of " + length, x.wipe(), length);
            is("about(8)", x.about(8), 0);
            x = new IdeaCage();
        }
    }

    private static void wipedBytesAreGone() {
        DUE.sentence("Promise 3: THE TEXT is empty");
        IdeaCage x = Cages.written(Cages.SEVEN);
        x.wipe();
        is("fault() of nothing", x.fault(), 0);
        is("idea() of nothing", x.idea(), LATE);
        Cages.write(x, "I");
        is("fault() of I", x.fault(), 1);
        Cages.write(x, "4");
        is("idea() of I4", x.idea(), 40);
        is("about(0)", x.about(0), 0);
    }

    private static void wipeLeavesTheIdea() {
        DUE.sentence("Promise 3: THE TEXT alone is empty");
        IdeaCage x = Cages.made("I3Pa0Pe3");
        Cages.put(x, "00");
        is("wipe()", x.wipe(), 8);
        is("about(0)", x.about(0), 2);
        is("about(1)", x.about(1), 1);
        is("about(3)", x.about(3), 3);
        is("about(6)", x.about(6), 2);
        is("at(4)", x.at(4), 1);
        is("part(1, 1)", x.part(1, 1), 3);
    }

    // ---- 4 fault

    /** Whether the byte may come behind the first bytes of SEVEN, by the form of an idea. */
    private static boolean may(int place, int letter) {
        if (place == 0) return letter == 'I';
        if (place == 1) return letter >= '0' && letter <= '9';
        if (place >= 23) return false;
        if (place % 3 == 2) return letter == 'P';
        if (place % 3 == 1) return letter >= '0' && letter <= '3';
        return letter >= 'a' && letter <= 'p' && !Cages.SEVEN.substring(0, place).contains("P" + (char) letter);
    }

    private static boolean isWhole(int length) {
        return length >= 2 && length <= 23 && length % 3 == 2;
    }

    private static void everyByteAtEveryPlace() {
        DUE.sentence("FAULT: the place of the first byte by which THE TEXT can be no IDEA");
        for (int place = 0; place <= 23; place++) {
            for (int letter = 0; letter <= 255; letter++) {
                IdeaCage x = Cages.written(Cages.SEVEN.substring(0, place));
                x.write(letter);
                int end = isWhole(place + 1) ? NONE : place + 1;
                is("byte " + letter + " at " + place, x.fault(), may(place, letter) ? end : place);
            }
        }
    }

    private static void everyBeginning() {
        DUE.sentence("FAULT: its length, if it is only not at its end; NONE: none");
        IdeaCage x = new IdeaCage();
        is("fault() of nothing", x.fault(), 0);
        for (int length = 1; length <= 23; length++) {
            x.write(Cages.SEVEN.charAt(length - 1));
            is("fault() of " + length + " bytes", x.fault(), isWhole(length) ? NONE : length);
            is("the same again", x.fault(), isWhole(length) ? NONE : length);
        }
    }

    private static void whateverComesBehind() {
        DUE.sentence("FAULT: whatever came behind it");
        for (int place = 0; place < 23; place++) {
            String wrong = Cages.SEVEN.substring(0, place) + "?" + Cages.SEVEN.substring(place + 1);
            is("fault() of " + wrong, Cages.written(wrong).fault(), place);
            String twice = Cages.SEVEN.substring(0, place) + "??";
            is("fault() of " + twice, Cages.written(twice).fault(), place);
        }
        is("two wrong bytes", Cages.written("I9Pa9Pa0").fault(), 4);
        is("a cell told again, then a wrong kind", Cages.written("I9Pa0Pa9").fault(), 6);
    }

    private static void sevenPartsAtMost() {
        DUE.sentence("AN IDEA: PARTS, none or more (7 at most)");
        is("none", Cages.written("I5").fault(), NONE);
        is("seven", Cages.written(Cages.SEVEN).fault(), NONE);
        is("an eighth begun", Cages.written(Cages.SEVEN + "P").fault(), 23);
        is("an eighth", Cages.written(Cages.SEVEN + "Pg0").fault(), 23);
        is("ten parts", Cages.written(Cages.SEVEN + "Pg0Ph0Pi0").fault(), 23);
        is("idea() of eight", Cages.written(Cages.SEVEN + "Pg0").idea(), LATE);
    }

    private static void aCellIsToldOnce() {
        DUE.sentence("AN IDEA: at CELL c (where none is told yet)");
        for (int again = 1; again < 7; again++) {
            for (int first = 0; first < again; first++) {
                String text = Cages.SEVEN.substring(0, 3 + 3 * again) + Cages.SEVEN.charAt(3 + 3 * first) + "3";
                is("fault() of " + text, Cages.written(text).fault(), 3 + 3 * again);
            }
        }
        for (char cell = 'a'; cell <= 'p'; cell++) {
            is("cell " + cell, Cages.written("I0P" + cell + "0").fault(), NONE);
            is("cell " + cell + " twice", Cages.written("I0P" + cell + "0P" + cell + "1").fault(), 6);
        }
        IdeaCage x = Cages.made("I0Pa0");
        x.wipe();
        Cages.write(x, "I0Pa0");
        is("told in a text that was wiped", x.fault(), NONE);
    }

    private static void faultOfAFullText() {
        DUE.sentence("THE TEXT is bytes (32 at most); FAULT (its length set aside)");
        IdeaCage x = Cages.written(Cages.SEVEN + "Pg0Ph0Pi0");
        is("about(8)", x.about(8), 32);
        is("fault() at 32", x.fault(), 23);
        is("write at 32", x.write('P'), FULL);
        is("fault() still", x.fault(), 23);
        IdeaCage wrongAtFirst = new IdeaCage();
        for (int i = 0; i < 32; i++) {
            wrongAtFirst.write(255);
        }
        is("fault() of 32 wrong bytes", wrongAtFirst.fault(), 0);
    }

    // ---- 5 idea

    private static void ideaIsLateByAFault() {
        DUE.sentence("Promise 5: LATE: a FAULT; what is refused changes nothing");
        for (int length = 0; length <= 23; length++) {
            IdeaCage x = Cages.made("I4Pk1");
            x.put(2);
            x.keep(1);
            x.wipe();
            Cages.write(x, Cages.SEVEN.substring(0, length));
            if (!isWhole(length)) {
                is("idea() of " + length + " bytes", x.idea(), LATE);
                is("about(0)", x.about(0), 1);
                is("about(1)", x.about(1), 3);
                is("about(6)", x.about(6), 1);
                is("about(8)", x.about(8), length);
                is("at(10)", x.at(10), 0);
                is("part(0, 1)", x.part(0, 1), 1);
                is("again(1)", x.again(1), 1);
            } else {
                is("idea() of " + length + " bytes", x.idea(), 90 + (length - 2) / 3);
            }
        }
    }

    private static void ideaTellsPolesAndParts() {
        DUE.sentence("Promise 5: 10 times s, and PARTS (s: a figure 0 .. 9; PARTS none .. 7)");
        for (int s = 0; s <= 9; s++) {
            for (int parts = 0; parts <= 7; parts++) {
                IdeaCage x = Cages.written("I" + s + Cages.SEVEN.substring(2, 2 + 3 * parts));
                is("idea()", x.idea(), 10 * s + parts);
                is("about(0)", x.about(0), parts);
                is("about(1)", x.about(1), s);
            }
        }
    }

    private static void ideaIsMadeAnew() {
        DUE.sentence("When THE IDEA is made anew: s POLES, no COLUMN has any, no PART is HAD, it RAINED 0 times; no ACTS");
        IdeaCage x = Cages.made(Cages.SEVEN);
        Cages.put(x, "001123333");
        Cages.rain(x, 3);
        is("about(1)", x.about(1), 0);
        is("the same text", x.idea(), 97);
        is("about(1)", x.about(1), 9);
        is("about(2)", x.about(2), 0);
        is("about(3)", x.about(3), 0);
        is("about(4)", x.about(4), 0);
        is("about(5)", x.about(5), 0);
        is("about(6)", x.about(6), 0);
        is("undo()", x.undo(), LATE);
        DUE.same("columns", Cages.columns(x), "0000");
        is("THE TEXT stays", x.about(8), 23);
        for (int part = 0; part < 7; part++) {
            is("part(" + part + ", 2)", x.part(part, 2), 0);
            is("part(" + part + ", 3)", x.part(part, 3), 0);
        }
    }

    private static void whatWasKeptIsGone() {
        DUE.sentence("Promise 5: what was kept is gone");
        IdeaCage x = Cages.made("I2Pa0");
        x.put(0);
        x.keep(0);
        x.keep(1);
        x.idea();
        is("again(0)", x.again(0), LATE);
        is("again(1)", x.again(1), LATE);
        is("about(2)", x.about(2), 0);
        IdeaCage early = new IdeaCage();
        early.keep(0);
        Cages.anew(early, "I2");
        is("kept before the first idea", early.again(0), LATE);
    }

    private static void triedAndSeedStay() {
        DUE.sentence("Promise 5: TRIED, THE SEED stay");
        IdeaCage x = Cages.made("I2Pa0");
        x.attempt(0, 0);
        x.attempt(8, 1);
        x.seed(Long.MIN_VALUE);
        is("idea()", Cages.anew(x, "I3"), 30);
        is("about(7)", x.about(7), 2);
        is("kinds(1)", x.kinds(1), 21);
        is("seed(0)", x.seed(0), Long.MIN_VALUE);
    }

    private static void fewerPartsThanBefore() {
        DUE.sentence("Promise 5: THE TEXT is THE IDEA: nothing of an earlier one");
        IdeaCage x = Cages.made("I9Pa3Pb3Pc3Pd3Pe3Pf3Pg3");
        is("idea()", Cages.anew(x, "I9Pe0"), 91);
        is("part(1, 0)", x.part(1, 0), UNKNOWN);
        is("part(6, 0)", x.part(6, 0), UNKNOWN);
        is("at(0)", x.at(0), NONE);
        is("at(4)", x.at(4), 0);
        is("put(1)", x.put(1), 0);
        is("put(0)", x.put(0), 0);
        is("put(0)", x.put(0), 1);
        is("e is no air any more", x.strike(0), 1);
        is("idea()", Cages.anew(x, "I0"), 0);
        is("about(0)", x.about(0), 0);
        is("at(4)", x.at(4), NONE);
        is("soon(0, 0)", x.soon(0, 0), 0);
        is("soon(1, 0)", x.soon(1, 0), BAD);
    }

    // ---- 6 about

    private static void aboutIsBad() {
        DUE.sentence("Promise 6: BAD");
        IdeaCage x = Cages.made(Cages.SEVEN);
        is("about(-1)", x.about(-1), BAD);
        is("about(9)", x.about(9), BAD);
        for (int what : FAR) {
            is("about(" + what + ")", x.about(what), BAD);
        }
    }

    private static void aboutAtItsLeastAndMost() {
        DUE.sentence("Promise 6: each number at its least and at its most");
        IdeaCage x = Cages.made("I9Pe3Pf3Pg3Pa0Pb0Pc0Pd0");
        int[] least = {7, 9, 0, 0, 0, 0, 0, 0, 23};
        looks(x, least);
        Cages.put(x, "001122333");
        for (int i = 0; i < 6; i++) {
            x.attempt(0, 1);
        }
        int[] most = {7, 0, 9, 127, 0, 127, 9, 6, 23};
        looks(x, most);
        Cages.rain(x, 40);
        int[] wet = {7, 0, 9, 127, 40, 127, 14, 6, 23};
        looks(x, wet);
    }

    private static void looks(IdeaCage x, int[] want) {
        for (int what = 0; what < want.length; what++) {
            is("about(" + what + ")", x.about(what), want[what]);
        }
    }

    // ---- 7 part

    private static void partIsUnknown() {
        DUE.sentence("Promise 7: UNKNOWN (there is no such PART)");
        for (int parts = 0; parts <= 7; parts++) {
            IdeaCage x = Cages.made(Cages.SEVEN.substring(0, 2 + 3 * parts));
            for (int what = 0; what < 4; what++) {
                is("part(" + parts + ", " + what + ") of " + parts, x.part(parts, what), UNKNOWN);
                is("part(-1, " + what + ")", x.part(-1, what), UNKNOWN);
            }
            if (parts > 0) {
                is("the last part", x.part(parts - 1, 0), Cages.SEVEN.charAt(3 * parts) - 'a');
            }
            for (int part : FAR) {
                is("part(" + part + ", 0)", x.part(part, 0), UNKNOWN);
            }
        }
    }

    private static void partIsBad() {
        DUE.sentence("Promise 7: UNKNOWN; BAD: of several what is told first");
        IdeaCage x = Cages.made("I1Pa0");
        is("part(0, -1)", x.part(0, -1), BAD);
        is("part(0, 4)", x.part(0, 4), BAD);
        for (int what : FAR) {
            is("part(0, " + what + ")", x.part(0, what), BAD);
            is("part(1, " + what + ")", x.part(1, what), UNKNOWN);
        }
        is("part(1, 4)", x.part(1, 4), UNKNOWN);
        is("part(-1, -1)", x.part(-1, -1), UNKNOWN);
    }

    private static void partAtItsLeastAndMost() {
        DUE.sentence("Promise 7: its CELL, KIND, 1 if it is HAD, 1 if a POLE is in its CELL");
        for (int cell = 0; cell < 16; cell++) {
            for (int kind = 0; kind < 4; kind++) {
                IdeaCage x = Cages.made("I4P" + (char) ('a' + cell) + kind);
                is("cell", x.part(0, 0), cell);
                is("kind", x.part(0, 1), kind);
                for (int lift = 0; lift < 4; lift++) {
                    is("not had yet", x.part(0, 2), lift > cell / 4 ? 1 : 0);
                    is("no pole yet", x.part(0, 3), lift > cell / 4 ? 1 : 0);
                    x.put(cell % 4);
                }
                is("had", x.part(0, 2), 1);
                is("a pole", x.part(0, 3), 1);
                Cages.strike(x, ("" + cell % 4).repeat(4));
                is("had without a pole", x.part(0, 2), cell < 4 || kind == 3 ? 1 : 0);
                is("no pole", x.part(0, 3), 0);
            }
        }
    }

    // ---- 8 column, 9 at

    private static void columnIsUnknown() {
        DUE.sentence("Promise 8: UNKNOWN (there is no such COLUMN)");
        IdeaCage x = Cages.made("I9");
        Cages.put(x, "03");
        is("column(-1)", x.column(-1), UNKNOWN);
        is("column(4)", x.column(4), UNKNOWN);
        for (int column : FAR) {
            is("column(" + column + ")", x.column(column), UNKNOWN);
        }
        is("column(0)", x.column(0), 1);
        is("column(3)", x.column(3), 1);
    }

    private static void columnHas0To4() {
        DUE.sentence("POLES of a COLUMN (4 at most)");
        for (int column = 0; column < 4; column++) {
            IdeaCage x = Cages.made("I9");
            for (int poles = 0; poles <= 4; poles++) {
                for (int other = 0; other < 4; other++) {
                    is("column(" + other + ")", x.column(other), other == column ? poles : 0);
                }
                x.put(column);
            }
            is("column at its most", x.column(column), 4);
        }
    }

    private static void atIsUnknown() {
        DUE.sentence("Promise 9: UNKNOWN (CELLS are 0 .. 15)");
        IdeaCage x = Cages.made("I0Pa0Pp0");
        is("at(-1)", x.at(-1), UNKNOWN);
        is("at(16)", x.at(16), UNKNOWN);
        is("at(NONE)", x.at(NONE), UNKNOWN);
        for (int cell : FAR) {
            is("at(" + cell + ")", x.at(cell), UNKNOWN);
        }
        is("at(0)", x.at(0), 0);
        is("at(15)", x.at(15), 1);
    }

    private static void atTellsThePartOrNone() {
        DUE.sentence("Promise 9: The PART at a CELL; NONE");
        IdeaCage x = Cages.made(Cages.SEVEN);
        for (int cell = 0; cell < 16; cell++) {
            int place = Cages.SEVEN.indexOf("P" + (char) ('a' + cell));
            is("at(" + cell + ")", x.at(cell), place < 0 ? NONE : (place - 2) / 3);
        }
        IdeaCage bare = Cages.made("I9");
        for (int cell = 0; cell < 16; cell++) {
            is("at(" + cell + ") of no parts", bare.at(cell), NONE);
        }
    }
}
