import java.math.BigInteger;
import java.util.Random;

/** Promises 19 to 27, tried, rests, chances, slots: each sentence that names a boundary case. */
public final class ChancesEdgesTest {
    private static final int UNKNOWN = -1, BAD = -2, LATE = -3, FULL = -4, NONE = -9;
    private static final int[] FAR = {Integer.MIN_VALUE, -1000, 1000, Integer.MAX_VALUE};
    private static final Due DUE = new Due();

    public static void main(String[] args) {
        attemptIsBadByAbout();
        attemptIsBadByStood();
        attemptIsFull();
        attemptTellsBadFirst();
        unattemptTellsHowMuch();
        kindsIsBad();
        kindsOfNothingTried();
        kindsOfEachTry();
        kindsOfSixTries();
        kindsIsNone();
        restsIsUnknown();
        restsIsBad();
        restsTellsUnknownFirst();
        restsWhereNothingCanBe();
        restsWithPutsThatCanNotBe();
        restsWithStrikesThatCanNotBe();
        restsTheOneFirst();
        restsAtEachColumn();
        restsAreNeverNone();
        wetIsBad();
        wetAtNoneAndAll();
        wetOfEachTenth();
        wetOfNoPoles();
        wetOfTheTopOnes();
        wetByItselfAllAtOnce();
        wetOfSeven();
        seedIsAnyLong();
        termsIsBad();
        termsIs1To30();
        termsWrap();
        termsByUpper31Bits();
        termsOfEachRest();
        termsIfItCanBe();
        termsTogether();
        termsChangeTheSeedAlone();
        keepIsUnknown();
        keepTellsPoles();
        keepAnew();
        againIsUnknown();
        againIsLate();
        againGivesBackAll();
        againLeavesTheRest();
        noActsWhenOneGoesOn();
        DUE.end();
    }

    private static void is(String call, long got, long want) {
        DUE.is(call, got, want);
    }

    // ---- 19 attempt, 20 unattempt

    private static void attemptIsBadByAbout() {
        DUE.sentence("Promise 19: BAD: about (0 .. 31)");
        for (int about = 0; about <= 31; about++) {
            is("attempt(" + about + ", 0)", new IdeaCage().attempt(about, 0), 1);
            is("attempt(" + about + ", 1)", new IdeaCage().attempt(about, 1), 1);
        }
        IdeaCage x = new IdeaCage();
        is("attempt(-1, 0)", x.attempt(-1, 0), BAD);
        is("attempt(32, 1)", x.attempt(32, 1), BAD);
        for (int about : FAR) {
            is("attempt(" + about + ", 0)", x.attempt(about, 0), BAD);
        }
        is("about(7)", x.about(7), 0);
    }

    private static void attemptIsBadByStood() {
        DUE.sentence("Promise 19: BAD: stood (0, 1)");
        IdeaCage x = new IdeaCage();
        is("attempt(0, -1)", x.attempt(0, -1), BAD);
        is("attempt(31, 2)", x.attempt(31, 2), BAD);
        for (int stood : FAR) {
            is("attempt(0, " + stood + ")", x.attempt(0, stood), BAD);
        }
        is("about(7)", x.about(7), 0);
        is("kinds(0)", x.kinds(0), 16);
    }

    private static void attemptIsFull() {
        DUE.sentence("TRIED: 6 such at most, none at first; FULL: 6");
        IdeaCage x = new IdeaCage();
        for (int tried = 1; tried <= 6; tried++) {
            is("about(7)", x.about(7), tried - 1);
            is("the same try", x.attempt(0, 1), tried);
        }
        is("a seventh", x.attempt(0, 0), FULL);
        is("a seventh again", x.attempt(0, 1), FULL);
        is("about(7)", x.about(7), 6);
        is("the seventh is not tried", x.kinds(0), 7);
    }

    private static void attemptTellsBadFirst() {
        DUE.sentence("Promise 19: BAD; FULL: of several what is told first");
        IdeaCage x = new IdeaCage();
        for (int tried = 0; tried < 6; tried++) {
            x.attempt(31, 1);
        }
        is("attempt(32, 0)", x.attempt(32, 0), BAD);
        is("attempt(-1, 0)", x.attempt(-1, 0), BAD);
        is("attempt(0, 2)", x.attempt(0, 2), BAD);
        is("attempt(31, 1)", x.attempt(31, 1), FULL);
    }

    private static void unattemptTellsHowMuch() {
        DUE.sentence("Promise 20: Nothing is TRIED: how much there was");
        for (int many = 0; many <= 6; many++) {
            IdeaCage x = new IdeaCage();
            for (int tried = 0; tried < many; tried++) {
                x.attempt(31, 0);
            }
            is("kinds(0)", x.kinds(0), many == 0 ? 16 : 0);
            is("unattempt()", x.unattempt(), many);
            is("unattempt() again", x.unattempt(), 0);
            is("about(7)", x.about(7), 0);
            is("kinds(0)", x.kinds(0), 16);
            is("attempt", x.attempt(0, 1), 1);
            is("what was tried before is gone", x.kinds(0), 7);
        }
    }

    // ---- 21 kinds

    private static void kindsIsBad() {
        DUE.sentence("Promise 21: BAD");
        IdeaCage x = new IdeaCage();
        is("kinds(-1)", x.kinds(-1), BAD);
        is("kinds(2)", x.kinds(2), BAD);
        for (int what : FAR) {
            is("kinds(" + what + ")", x.kinds(what), BAD);
        }
    }

    private static void kindsOfNothingTried() {
        DUE.sentence("KINDS: how many (16 there are); the first one");
        IdeaCage x = new IdeaCage();
        is("kinds(0)", x.kinds(0), 16);
        is("kinds(1)", x.kinds(1), 0);
    }

    private static boolean stands(int kind, int lift, int about) {
        boolean below = about % 2 == 1;
        boolean between = about / 2 % 4 == 3;
        boolean stair = below || about >= 8;
        return lift == 0 || kind == 3 || kind == 0 && below || kind == 1 && between || kind == 2 && stair;
    }

    /** Tries are told as about and 32 times stood. */
    private static void kindsOf(int... tries) {
        IdeaCage x = new IdeaCage();
        for (int t : tries) {
            x.attempt(t % 32, t / 32);
        }
        int count = 0;
        int first = NONE;
        for (int kind = 3; kind >= 0; kind--) {
            for (int lift = 3; lift >= 0; lift--) {
                boolean isSo = true;
                for (int t : tries) {
                    isSo = isSo && stands(kind, lift, t % 32) == (t / 32 == 1);
                }
                count += isSo ? 1 : 0;
                first = isSo ? 10 * kind + lift : first;
            }
        }
        is("kinds(0)", x.kinds(0), count);
        is("kinds(1)", x.kinds(1), first);
    }

    private static void kindsOfEachTry() {
        DUE.sentence("TRIED: bits: 1 below it, 2 left, 4 right of it, 8 left of that below, 16 right of that below");
        for (int one = 0; one < 64; one++) {
            kindsOf(one);
            for (int other = 0; other < 64; other++) {
                kindsOf(one, other);
            }
        }
    }

    private static void kindsOfSixTries() {
        DUE.sentence("KINDS and LIFTS by which all that is TRIED is so (6 such at most)");
        // Each place of the row counts: the one try that tells more stands first, .., sixth.
        for (int place = 0; place < 6; place++) {
            int[] tries = {32 + 31, 32 + 31, 32 + 31, 32 + 31, 32 + 31, 32 + 31};
            tries[place] = 0;
            kindsOf(tries);
            tries[place] = 32 + 6;
            kindsOf(tries);
        }
    }

    private static void kindsIsNone() {
        DUE.sentence("Promise 21: how many (what = 0), the first one (1); NONE");
        IdeaCage x = new IdeaCage();
        x.attempt(0, 0);
        is("kinds(0)", x.kinds(0), 9);
        is("kinds(1)", x.kinds(1), 1);
        x.attempt(0, 1);
        is("kinds(0) of none", x.kinds(0), 0);
        is("kinds(1) of none", x.kinds(1), NONE);
    }

    // ---- 22 rests

    private static void restsIsUnknown() {
        DUE.sentence("Promise 22: UNKNOWN: both");
        IdeaCage x = Cages.made("I9Pa0");
        for (int column : new int[] {-1, 4, Integer.MIN_VALUE, 1 << 30, Integer.MAX_VALUE}) {
            is("rests(" + column + ", 0, 0)", x.rests(column, 0, 0), UNKNOWN);
            is("rests(0, " + column + ", 1)", x.rests(0, column, 1), UNKNOWN);
            is("rests(" + column + ", " + column + ", 0)", x.rests(column, column, 0), UNKNOWN);
        }
    }

    private static void restsIsBad() {
        DUE.sentence("Promise 22: BAD: both are one, what");
        IdeaCage x = Cages.made("I9Pa0");
        for (int column = 0; column < 4; column++) {
            is("rests(" + column + ", " + column + ", 0)", x.rests(column, column, 0), BAD);
            is("rests(" + column + ", " + column + ", 1)", x.rests(column, column, 1), BAD);
        }
        is("rests(0, 1, -1)", x.rests(0, 1, -1), BAD);
        is("rests(0, 1, 2)", x.rests(0, 1, 2), BAD);
        for (int what : FAR) {
            is("rests(0, 1, " + what + ")", x.rests(0, 1, what), BAD);
        }
    }

    private static void restsTellsUnknownFirst() {
        DUE.sentence("Promise 22: UNKNOWN; BAD: of several what is told first");
        IdeaCage x = Cages.made("I9Pa0");
        is("rests(4, 4, 2)", x.rests(4, 4, 2), UNKNOWN);
        is("rests(-1, 0, 2)", x.rests(-1, 0, 2), UNKNOWN);
        is("rests(0, 4, -1)", x.rests(0, 4, -1), UNKNOWN);
        is("rests(1, 1, 2)", x.rests(1, 1, 2), BAD);
    }

    private static void rests(IdeaCage x, int one, int other, int count, int first) {
        is("rests(" + one + ", " + other + ", 0)", x.rests(one, other, 0), count);
        is("rests(" + one + ", " + other + ", 1)", x.rests(one, other, 1), first);
    }

    private static void restsWhereNothingCanBe() {
        DUE.sentence("RESTS: if it can be (else nothing): neither is");
        for (int one = 0; one < 4; one++) {
            for (int other = 0; other < 4; other++) {
                if (one != other) {
                    rests(new IdeaCage(), one, other, 9, 0);
                    rests(Cages.made("I0Pa0Pb0Pc0Pd0"), one, other, 9, 0);
                }
            }
        }
    }

    private static void restsWithPutsThatCanNotBe() {
        DUE.sentence("RESTS: PUTS one, if it can be (else nothing)");
        // A put on four is as good as nothing; a strike would lose m. Column 1 does not put for nothing.
        IdeaCage full = Cages.made("I9Pm0");
        Cages.put(full, "0000");
        rests(full, 0, 1, 4, 0);
        rests(full, 1, 0, 4, 0);
        // The store is empty: all that can be is a strike, which loses e and f.
        IdeaCage empty = Cages.made("I4Pe0Pf0");
        Cages.put(empty, "0011");
        rests(empty, 0, 1, 4, 0);
        // One is left, and nothing is had by it: to put it is worse.
        IdeaCage one = Cages.made("I5Pe0Pf0");
        Cages.put(one, "0011");
        rests(one, 0, 1, 1, 0);
    }

    private static void restsWithStrikesThatCanNotBe() {
        DUE.sentence("RESTS: STRIKES one, if it can be (else nothing)");
        // No poles: a strike is as good as nothing, a put costs one.
        rests(Cages.made("I9"), 0, 1, 4, 0);
        // Column 0 has a pole and no part: it is struck; column 1 has none.
        IdeaCage x = Cages.made("I9");
        x.put(0);
        rests(x, 0, 1, 2, 20);
        rests(x, 1, 0, 2, 2);
        Cages.put(x, "1");
        rests(x, 0, 1, 1, 22);
    }

    private static void restsTheOneFirst() {
        DUE.sentence("RESTS: the one first");
        // One pole is left, and it wins a part at either column.
        IdeaCage x = Cages.made("I1Pc0Pd0");
        rests(x, 2, 3, 3, 10);
        rests(x, 3, 2, 3, 10);
        // The pole that column 2 strikes can be put on column 3, if column 2 is the one.
        x.put(2);
        rests(x, 2, 3, 1, 21);
        rests(x, 3, 2, 3, 2);
    }

    private static void restsAtEachColumn() {
        DUE.sentence("RESTS: twice as many as PARTS in its COLUMN that are HAD then, less as many as POLES");
        for (int one = 0; one < 4; one++) {
            for (int other = 0; other < 4; other++) {
                if (one == other) continue;
                IdeaCage x = Cages.made("I9P" + (char) ('a' + one) + "0P" + (char) ('e' + other) + "0");
                Cages.put(x, "" + other);
                // The one wins a by a put; the other wins e by its second pole, or saves the first.
                rests(x, one, other, 2, 11);
                x.put(other);
                // e would be lost by a strike, and a third pole costs.
                rests(x, one, other, 1, 10);
                is("nothing is changed", x.about(2), 2);
            }
        }
    }

    /** No idea has none (NOTES.md tells why), so that NONE is never due. */
    private static void restsAreNeverNone() {
        DUE.sentence("Promise 22: how many (what = 0), the first one (1); NONE");
        Random lots = new Random(22);
        for (int time = 0; time < 3000; time++) {
            IdeaCage x = Cages.made(anyIdea(lots));
            for (int act = 0; act < 24; act++) {
                if (lots.nextInt(3) == 0) {
                    x.strike(lots.nextInt(4));
                } else {
                    x.put(lots.nextInt(4));
                }
            }
            int one = lots.nextInt(4);
            int other = (one + 1 + lots.nextInt(3)) % 4;
            int count = x.rests(one, other, 0);
            int first = x.rests(one, other, 1);
            is("1 .. 9 rests", count >= 1 && count <= 9 ? 1 : 0, 1);
            is("a first one, two figures of 0 .. 2", first >= 0 && first <= 22 && first % 10 <= 2 ? 1 : 0, 1);
        }
    }

    private static String anyIdea(Random lots) {
        StringBuilder text = new StringBuilder("I").append(lots.nextInt(10));
        for (int part = 0; part < 7; part++) {
            String cell = "P" + (char) ('a' + lots.nextInt(12));
            if (text.indexOf(cell) < 0) {
                text.append(cell).append(lots.nextInt(4));
            }
        }
        return text.toString();
    }

    // ---- 23 wet

    private static void wetIsBad() {
        DUE.sentence("Promise 23: BAD: m (0 .. 7), x (0 .. 10)");
        IdeaCage x = Cages.made(Cages.SEVEN);
        Cages.put(x, "0123");
        is("wet(-1, 0)", x.wet(-1, 0, true), BAD);
        is("wet(8, 0)", x.wet(8, 0, false), BAD);
        is("wet(0, -1)", x.wet(0, -1, true), BAD);
        is("wet(0, 11)", x.wet(0, 11, false), BAD);
        for (int far : FAR) {
            is("wet(" + far + ", 0)", x.wet(far, 0, true), BAD);
            is("wet(0, " + far + ")", x.wet(0, far, true), BAD);
        }
        // More than there are PARTS is no refusal.
        IdeaCage none = Cages.made("I9");
        wet(none, 7, 10, 0, 1);
        wet(none, 0, 0, 1, 1);
        is("wet(8, 10) of none", none.wet(8, 10, true), BAD);
    }

    private static void wet(IdeaCage x, int m, int tenths, int above, int below) {
        is("wet(" + m + ", " + tenths + ", true)", x.wet(m, tenths, true), above);
        is("wet(" + m + ", " + tenths + ", false)", x.wet(m, tenths, false), below);
    }

    private static void wetAtNoneAndAll() {
        DUE.sentence("WET: x tenths (0 .. 10): never at 0, always at 10");
        IdeaCage x = Cages.made("I9Pe0Pf0Pg0Ph0");
        Cages.put(x, "00112233");
        for (int m = 0; m <= 7; m++) {
            wet(x, m, 0, m <= 4 ? 1 : 0, 1);
            wet(x, m, 10, m == 0 ? 1 : 0, 1);
        }
        for (int tenths = 0; tenths <= 10; tenths++) {
            wet(x, 0, tenths, 1, 1);
            wet(x, 5, tenths, 0, 1);
        }
        is("nothing is changed", x.about(2), 8);
        is("nothing is changed", x.about(3), 15);
        is("none comes to the store", x.about(1), 1);
    }

    private static int common(int one, int other) {
        return BigInteger.valueOf(one).gcd(BigInteger.valueOf(other)).intValue();
    }

    private static void wetOfEachTenth() {
        DUE.sentence("WET: a FRACTION, in least terms");
        IdeaCage one = Cages.made("I9Pe0");
        IdeaCage four = Cages.made("I9Pe0Pf0Pg0Ph0");
        Cages.put(one, "00");
        Cages.put(four, "00112233");
        for (int tenths = 0; tenths <= 10; tenths++) {
            int stay = 10 - tenths;
            wet(one, 1, tenths, stay / common(stay, 10), 10 / common(stay, 10));
            int all = stay * stay * stay * stay;
            wet(four, 4, tenths, all / common(all, 10000), 10000 / common(all, 10000));
            int some = 10000 - tenths * tenths * tenths * tenths;
            wet(four, 1, tenths, some / common(some, 10000), 10000 / common(some, 10000));
        }
    }

    private static void wetOfNoPoles() {
        DUE.sentence("WET: each COLUMN that has POLES loses (those without do not)");
        for (int cell = 4; cell < 8; cell++) {
            IdeaCage x = Cages.made("I9Pm3P" + (char) ('a' + cell) + "0");
            Cages.visit(x, 12);
            Cages.put(x, ("" + cell % 4).repeat(2));
            wet(x, 1, 10, 1, 1);
            wet(x, 2, 10, 0, 1);
            wet(x, 2, 1, 9, 10);
            Cages.strike(x, ("" + cell % 4).repeat(2));
            wet(x, 1, 10, 1, 1);
            wet(x, 2, 0, 0, 1);
        }
    }

    private static void wetOfTheTopOnes() {
        DUE.sentence("WET: loses its top one; then what does not STAND is LOST");
        IdeaCage x = Cages.made("I9Pf0Pj0Pe3");
        Cages.visit(x, 4);
        Cages.put(x, "11");
        wet(x, 2, 4, 3, 5);
        x.put(1);
        // The top one is j's: it stands on f, whose pole stays.
        wet(x, 3, 10, 1, 1);
        x.strike(1);
        // The top one is f's: j falls with it, the air stays (it does not rain).
        wet(x, 3, 4, 3, 5);
        wet(x, 2, 4, 3, 5);
        wet(x, 1, 4, 1, 1);
    }

    private static void wetByItselfAllAtOnce() {
        DUE.sentence("WET: by itself, all at once");
        // Keys f and g lean on each other: they fall when both poles go.
        IdeaCage x = Cages.made("I9Pe3Pf1Pg1Ph3");
        Cages.visit(x, 4);
        Cages.visit(x, 7);
        Cages.put(x, "1122");
        wet(x, 4, 5, 3, 4);
        wet(x, 3, 5, 3, 4);
        wet(x, 2, 5, 1, 1);
        wet(x, 4, 1, 99, 100);
        wet(x, 4, 10, 0, 1);
    }

    private static void wetOfSeven() {
        DUE.sentence("WET: that m (0 .. 7) PARTS or more are HAD");
        IdeaCage x = Cages.made("I9Pa0Pb0Pc0Pe0Pf0Pg0Ph0");
        Cages.put(x, "00112233");
        is("about(3)", x.about(3), 127);
        wet(x, 7, 3, 7, 10);
        wet(x, 6, 3, 1, 1);
        wet(x, 6, 10, 1, 1);
        wet(x, 7, 10, 0, 1);
        wet(x, 7, 0, 1, 1);
    }

    // ---- 24 seed, 25 terms

    private static final BigInteger TIMES = new BigInteger("6364136223846793005");
    private static final BigInteger MORE = new BigInteger("1442695040888963407");
    private static final BigInteger WHOLE = BigInteger.ONE.shiftLeft(64);

    private static long after(long seed, int steps) {
        BigInteger x = BigInteger.valueOf(seed);
        for (int i = 0; i < steps; i++) {
            x = x.multiply(TIMES).add(MORE).mod(WHOLE);
        }
        return x.longValue();
    }

    /** The seed from which one step comes to this one. */
    private static long before(long next) {
        return BigInteger.valueOf(next).subtract(MORE).multiply(TIMES.modInverse(WHOLE)).mod(WHOLE).longValue();
    }

    private static void seedIsAnyLong() {
        DUE.sentence("Promise 24: THE SEED is v: what it was (a long; 0 at first)");
        IdeaCage x = new IdeaCage();
        long was = 0;
        for (long v : new long[] {Long.MIN_VALUE, Long.MAX_VALUE, -1, 1, 1L << 32, -9, 0}) {
            is("seed(" + v + ")", x.seed(v), was);
            was = v;
        }
        is("seed(0)", x.seed(0), 0);
    }

    private static void termsIsBad() {
        DUE.sentence("Promise 25: BAD: m (1 .. 30); what is refused changes nothing");
        IdeaCage x = Cages.made("I9Pa0");
        x.seed(77);
        is("terms(0)", x.terms(0), BAD);
        is("terms(31)", x.terms(31), BAD);
        is("terms(-1)", x.terms(-1), BAD);
        for (int m : FAR) {
            is("terms(" + m + ")", x.terms(m), BAD);
        }
        is("seed(0)", x.seed(0), 77);
    }

    private static void termsIs1To30() {
        DUE.sentence("TERMS: m times (1 .. 30) x becomes x times 6364136223846793005 and 1442695040888963407");
        for (int m = 1; m <= 30; m++) {
            IdeaCage x = new IdeaCage();
            is("terms(" + m + ")", x.terms(m), 0);
            is("the seed behind " + m, x.seed(0), after(0, m));
        }
        IdeaCage x = new IdeaCage();
        x.terms(30);
        x.terms(1);
        is("the seed behind 30 and 1", x.seed(0), after(0, 31));
    }

    private static void termsWrap() {
        DUE.sentence("TERMS: (64 bits, wrapping)");
        IdeaCage x = new IdeaCage();
        for (long v : new long[] {Long.MIN_VALUE, Long.MAX_VALUE, -1, 1, 1L << 63, 0x7FFFFFFFFL, before(0), before(-1)}) {
            x.seed(v);
            x.terms(1);
            is("the seed behind " + v, x.seed(v), after(v, 1));
            x.terms(30);
            is("the seed 30 behind " + v, x.seed(v), after(v, 30));
        }
    }

    /** A cage where each column has just its e .. h by a pole: a strike loses one, a put loses none. */
    private static IdeaCage upright() {
        IdeaCage x = Cages.made("I9Pe0Pf0Pg0Ph0");
        Cages.put(x, "00112233");
        return x;
    }

    private static void termsByUpper31Bits() {
        DUE.sentence("TERMS: what is left of its upper 31 bits by 16");
        long[] lows = {0, 1, (1L << 33) - 1, 1L << 32};
        long[] highs = {0, 1, (1L << 27) - 1, 1L << 26, 12345678};
        for (long high : highs) {
            for (long low : lows) {
                for (int rest = 0; rest < 16; rest++) {
                    long next = (16 * high + rest << 33) + low;
                    IdeaCage x = upright();
                    x.seed(before(next));
                    is("rest " + rest + " of " + next, x.terms(1), rest >= 9 && rest <= 14 ? 3 : 4);
                    is("the seed", x.seed(0), next);
                }
            }
        }
    }

    private static int oneTerm(IdeaCage x, int rest) {
        x.seed(before((16L * 99999999L + rest) << 33));
        return x.terms(1);
    }

    private static void termsOfEachRest() {
        DUE.sentence("TERMS: 0 .. 8 by 4 a COLUMN on which one is PUT, 9 .. 14 by 4 one from which one is STRUCK; 15 RAINED");
        for (int rest = 0; rest < 16; rest++) {
            for (int column = 0; column < 4; column++) {
                IdeaCage low = Cages.made("I9P" + (char) ('a' + column) + "0");
                is("rest " + rest + " puts", oneTerm(low, rest), rest <= 8 && rest % 4 == column ? 1 : 0);
                IdeaCage high = Cages.made("I9P" + (char) ('e' + column) + "0");
                Cages.put(high, ("" + column).repeat(2));
                boolean falls = rest >= 9 && rest <= 14 && rest % 4 == column;
                is("rest " + rest + " strikes", oneTerm(high, rest), falls ? 0 : 1);
                IdeaCage air = Cages.made("I9P" + (char) ('e' + column) + "3");
                Cages.visit(air, 4 + column);
                is("rest " + rest + " rains", oneTerm(air, rest), rest == 15 ? 0 : 1);
            }
        }
    }

    private static void termsIfItCanBe() {
        DUE.sentence("TERMS: each if it can be");
        for (int rest = 0; rest < 15; rest++) {
            IdeaCage empty = Cages.made("I0Pa0Pb0Pc0Pd0");
            is("rest " + rest + " of an empty store, of no poles", oneTerm(empty, rest), 0);
            IdeaCage used = Cages.made("I1Pa0Pb0Pc0Pd0");
            used.put(3);
            is("rest " + rest + " of a store that is empty now", oneTerm(used, rest), 1);
        }
        for (int column = 0; column < 4; column++) {
            IdeaCage full = Cages.made("I9P" + (char) ('m' + column) + "0P" + (char) ('a' + (column + 1) % 4) + "0");
            Cages.put(full, ("" + column).repeat(4));
            is("a put on four", oneTerm(full, column), 1);
            is("a put on four", oneTerm(full, column + 4), 1);
        }
    }

    private static void termsTogether() {
        DUE.sentence("TERMS: how many PARTS are HAD, each time, together");
        IdeaCage one = Cages.made("I1Pa0");
        one.put(0);
        IdeaCage seven = Cages.made("I9Pa0Pb0Pc0Pd0Pe0Pf0Pg0");
        Cages.put(seven, "0123012");
        for (int m = 1; m <= 30; m++) {
            is("one that never falls, " + m + " times", one.terms(m), m);
            is("seven that never fall, " + m + " times", seven.terms(m), 7 * m);
        }
        is("none", Cages.made("I0Pa0").terms(30), 0);
    }

    private static void termsChangeTheSeedAlone() {
        DUE.sentence("TERMS: (Nothing changes but THE SEED.)");
        IdeaCage x = upright();
        x.rain();
        x.keep(0);
        for (int i = 0; i < 10; i++) {
            x.terms(30);
            int[] want = {4, 1, 8, 15, 1, 0, 9, 0, 14};
            for (int what = 0; what < want.length; what++) {
                is("about(" + what + ")", x.about(what), want[what]);
            }
            DUE.same("columns", Cages.columns(x), "2222");
        }
        is("seed(0)", x.seed(0), after(0, 300));
        is("again(0)", x.again(0), 8);
    }

    // ---- 26 keep, 27 again

    private static void keepIsUnknown() {
        DUE.sentence("Promise 26: UNKNOWN (SLOTS 0 .. 1)");
        IdeaCage x = Cages.made("I9");
        x.put(0);
        is("keep(-1)", x.keep(-1), UNKNOWN);
        is("keep(2)", x.keep(2), UNKNOWN);
        for (int slot : FAR) {
            is("keep(" + slot + ")", x.keep(slot), UNKNOWN);
        }
        is("again(0)", x.again(0), LATE);
        is("again(1)", x.again(1), LATE);
        is("keep(0)", x.keep(0), 1);
        is("keep(1)", x.keep(1), 1);
    }

    private static void keepTellsPoles() {
        DUE.sentence("Promise 26: They are kept: POLES of all COLUMNS (0 .. 9)");
        IdeaCage x = Cages.made("I9");
        for (int poles = 0; poles <= 9; poles++) {
            is("keep(0)", x.keep(0), poles);
            is("keep(1)", x.keep(1), poles);
            is("acts stay", x.about(6), poles);
            x.put(poles % 4);
        }
        is("undo()", x.undo(), 8);
        is("of nothing", new IdeaCage().keep(1), 0);
    }

    private static void keepAnew() {
        DUE.sentence("Promise 26: what was kept in that SLOT is kept no more");
        IdeaCage x = Cages.made("I9");
        x.keep(0);
        x.keep(1);
        Cages.put(x, "123");
        is("keep(1)", x.keep(1), 3);
        is("again(0)", x.again(0), 0);
        DUE.same("columns", Cages.columns(x), "0000");
        is("again(1)", x.again(1), 3);
        DUE.same("columns", Cages.columns(x), "0111");
    }

    private static void againIsUnknown() {
        DUE.sentence("Promise 27: UNKNOWN; LATE: of several what is told first");
        IdeaCage x = Cages.made("I9");
        is("again(-1)", x.again(-1), UNKNOWN);
        is("again(2)", x.again(2), UNKNOWN);
        x.keep(0);
        x.keep(1);
        is("again(-1)", x.again(-1), UNKNOWN);
        is("again(2)", x.again(2), UNKNOWN);
        for (int slot : FAR) {
            is("again(" + slot + ")", x.again(slot), UNKNOWN);
        }
    }

    private static void againIsLate() {
        DUE.sentence("Promise 27: LATE: none were kept");
        for (int slot = 0; slot < 2; slot++) {
            IdeaCage x = Cages.made("I9Pa0");
            x.put(0);
            is("again(" + slot + ")", x.again(slot), LATE);
            is("nothing is changed", x.about(2), 1);
            is("nothing is changed", x.about(6), 1);
            x.keep(1 - slot);
            is("the other was kept", x.again(slot), LATE);
            is("nothing is changed", x.about(6), 1);
            is("again of the other", x.again(1 - slot), 1);
            x.keep(slot);
            is("again(" + slot + ")", x.again(slot), 1);
            x.idea();
            is("gone with the idea", x.again(slot), LATE);
            is("gone with the idea", x.again(1 - slot), LATE);
        }
    }

    private static void againGivesBackAll() {
        DUE.sentence("SLOTS 0 .. 1 keep POLES, THE STORE, what is HAD, how often it RAINED");
        IdeaCage x = Cages.made("I9Pa3Pf0Pp3");
        Cages.put(x, "00113333");
        x.rain();
        is("keep(1)", x.keep(1), 8);
        Cages.strike(x, "00113333");
        Cages.rain(x, 5);
        is("keep(0)", x.keep(0), 0);
        for (int time = 0; time < 3; time++) {
            is("again(1)", x.again(1), 8);
            DUE.same("columns", Cages.columns(x), "2204");
            is("about(1)", x.about(1), 1);
            is("about(3)", x.about(3), 7);
            is("about(4)", x.about(4), 1);
            is("again(0)", x.again(0), 0);
            DUE.same("columns", Cages.columns(x), "0000");
            is("about(1)", x.about(1), 9);
            is("about(3)", x.about(3), 0);
            is("about(4)", x.about(4), 6);
        }
    }

    private static void againLeavesTheRest() {
        DUE.sentence("Promise 27: They alone are as they were kept");
        IdeaCage x = Cages.made("I2Pa0");
        x.keep(0);
        x.attempt(0, 0);
        x.seed(6);
        x.write('P');
        is("again(0)", x.again(0), 0);
        is("about(7)", x.about(7), 1);
        is("about(8)", x.about(8), 6);
        is("seed(0)", x.seed(0), 6);
        is("about(0)", x.about(0), 1);
    }

    private static void noActsWhenOneGoesOn() {
        DUE.sentence("SLOTS: (no ACTS when one goes on)");
        IdeaCage x = Cages.made("I9Pa0");
        Cages.put(x, "0123");
        x.keep(0);
        Cages.rain(x, 20);
        is("again(0)", x.again(0), 4);
        is("about(6)", x.about(6), 0);
        is("undo()", x.undo(), LATE);
        is("about(2)", x.about(2), 4);
        for (int act = 1; act <= 15; act++) {
            x.rain();
            is("about(6)", x.about(6), Math.min(act, 14));
        }
    }
}
