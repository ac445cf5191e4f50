import java.math.BigInteger;

/** Each promise by itself, its answers worked out by hand: the ordinary, the edges, wrong inputs. */
public final class PromiseTest {
    private static final int UNKNOWN = -1, BAD = -2, LATE = -3, FULL = -4, NONE = -9;
    private static final int[] OUTSIDE = {-1, Integer.MIN_VALUE, Integer.MAX_VALUE};
    private static final Due DUE = new Due();

    public static void main(String[] args) {
        promise1New();
        promise2Write();
        promise3Wipe();
        promise4Fault();
        promise5Idea();
        promise6About();
        promise7Part();
        promises8And9ColumnAt();
        promise10Put();
        promise11Strike();
        standing();
        promise12Rain();
        promise13Undo();
        promises14And15LosesDown();
        promise16Soon();
        promise17Judge();
        promise18Share();
        promises19To21Tried();
        promise22Rests();
        promise23Wet();
        promises24And25SeedTerms();
        eachTerm();
        promises26And27Slots();
        refusedChangesNothing();
        DUE.end();
    }

    private static void is(String call, long got, long want) {
        DUE.is(call, got, want);
    }

    private static void write(IdeaCage x, String text) {
        x.wipe();
        for (int i = 0; i < text.length(); i++) {
            is("write in " + text, x.write(text.charAt(i)), i + 1);
        }
    }

    private static IdeaCage made(String text) {
        IdeaCage x = new IdeaCage();
        write(x, text);
        is("idea of " + text, x.idea(), 10 * (text.charAt(1) - '0') + (text.length() - 2) / 3);
        return x;
    }

    private static void promise1New() {
        IdeaCage x = new IdeaCage();
        for (int what = 0; what <= 8; what++) {
            is("new: about(" + what + ")", x.about(what), 0);
        }
        for (int column = 0; column < 4; column++) {
            is("new: column", x.column(column), 0);
            is("new: put", x.put(column), LATE);
        }
        is("new: seed", x.seed(0), 0);
        is("new: part", x.part(0, 0), UNKNOWN);
        is("new: again", x.again(0), LATE);
        is("new: again", x.again(1), LATE);
        is("new: undo", x.undo(), LATE);
        is("new: fault", x.fault(), 0);
    }

    private static void promise2Write() {
        IdeaCage x = new IdeaCage();
        is("write(-1)", x.write(-1), BAD);
        is("write(256)", x.write(256), BAD);
        for (int i = 1; i <= 32; i++) {
            is("write", x.write(i % 2 == 0 ? 0 : 255), i);
        }
        is("write at 32", x.write(73), FULL);
        is("write at 32, bad first", x.write(256), BAD);
        is("about(8)", x.about(8), 32);
        is("wipe at 32", x.wipe(), 32);
        is("write again", x.write(73), 1);
    }

    private static void promise3Wipe() {
        IdeaCage x = made("I3Pa0");
        is("put", x.put(0), 1);
        is("wipe", x.wipe(), 5);
        is("wipe again", x.wipe(), 0);
        is("the text is gone", x.about(8), 0);
        is("the idea is not", x.about(0), 1);
        is("what is had is not", x.about(3), 1);
    }

    private static void fault(String text, int want) {
        IdeaCage x = new IdeaCage();
        write(x, text);
        is("fault of " + text, x.fault(), want);
        is("idea of " + text, x.idea() == LATE ? 1 : 0, want == NONE ? 0 : 1);
        is("text stays", x.about(8), text.length());
    }

    private static void promise4Fault() {
        fault("", 0);
        fault("I", 1);
        fault("i", 0);
        fault("0", 0);
        fault("I/", 1);
        fault("I:", 1);
        fault("I0", NONE);
        fault("I9", NONE);
        fault("I0P", 3);
        fault("I0p", 2);
        fault("I00", 2);
        fault("I0P`", 3);
        fault("I0PA", 3);
        fault("I0Pq", 3);
        fault("I0Pa", 4);
        fault("I0Pp", 4);
        fault("I0Pa/", 4);
        fault("I0Pa4", 4);
        fault("I0Pa0", NONE);
        fault("I0Pp3", NONE);
        fault("I0Pa0Pa", 6);
        fault("I0Pb0Pa0Pb", 9);
        fault("I0Pb0Pa0Pc", 10);
        fault("I9Pa0Pb1Pc2Pd3Pe0Pf1Pp2", NONE);
        fault("I9Pa0Pb1Pc2Pd3Pe0Pf1Pp2P", 23);
        fault("I9Pa0Pb1Pc2Pd3Pe0Pf1Pp2Pg3", 23);
        fault("I9Pa0Pb1Pc2Pd3Pe0Pf1Pa2Pg3", 21);
        fault("XIIIIIIIIIIIIIIIIIIIIIIIIIIIIIII", 0);
        fault("I9" + (char) 0, 2);
        fault("" + (char) 255, 0);
    }

    private static void promise5Idea() {
        IdeaCage x = made("I4Pa0Pe3");
        Cages.put(x, "00");
        x.rain();
        x.keep(0);
        x.keep(1);
        x.attempt(3, 1);
        x.seed(77);
        write(x, "I2Pd");
        is("idea with a fault", x.idea(), LATE);
        is("nothing changed", x.about(3), 3);
        is("nothing changed", x.about(6), 3);
        is("nothing changed", x.about(0), 2);
        write(x, "I2Pd1");
        is("idea anew", x.idea(), 21);
        is("text stays", x.about(8), 5);
        is("store", x.about(1), 2);
        is("poles", x.about(2), 0);
        is("had", x.about(3), 0);
        is("rained", x.about(4), 0);
        is("acts", x.about(6), 0);
        is("tried stays", x.about(7), 1);
        is("undo", x.undo(), LATE);
        is("kept 0 is gone", x.again(0), LATE);
        is("kept 1 is gone", x.again(1), LATE);
        is("seed stays", x.seed(0), 77);
        is("at the old cell", x.at(0), NONE);
        is("at the new cell", x.at(3), 0);
        is("the second part is gone", x.part(1, 0), UNKNOWN);
        is("kind", x.part(0, 1), 1);
        is("the same text once more", x.idea(), 21);
        write(x, "I7");
        is("no parts", x.idea(), 70);
        is("no parts", x.about(0), 0);
        is("no part there", x.at(3), NONE);
        is("soon of none", x.soon(0, 1), 0);
        is("soon of one", x.soon(1, 1), BAD);
    }

    private static void promise6About() {
        IdeaCage x = made("I6Pb0Pa0Pe1Pf0");
        Cages.put(x, "0011");
        x.rain();
        x.attempt(0, 0);
        x.attempt(0, 0);
        int[] want = {4, 2, 4, 15, 1, 11, 5, 2, 14};
        for (int what = 0; what < want.length; what++) {
            is("about(" + what + ")", x.about(what), want[what]);
        }
        is("about(9)", x.about(9), BAD);
        for (int what : OUTSIDE) {
            is("about(" + what + ")", x.about(what), BAD);
        }
        is("left changes nothing", x.about(3), 15);
        is("left changes nothing", x.about(2), 4);
    }

    private static void promise7Part() {
        IdeaCage x = made("I2Pp3Pe2Pa1");
        int[][] before = {{15, 3, 0, 0}, {4, 2, 0, 0}, {0, 1, 0, 0}};
        parts(x, before);
        x.put(0);
        int[][] after = {{15, 3, 0, 0}, {4, 2, 0, 0}, {0, 1, 1, 1}};
        parts(x, after);
        x.put(0);
        x.strike(0);
        int[][] last = {{15, 3, 0, 0}, {4, 2, 1, 0}, {0, 1, 1, 1}};
        parts(x, last);
        x.put(0);
        is("a pole in lift 1", x.part(1, 3), 1);
        is("part(2, 4)", x.part(2, 4), BAD);
        is("part(2, -1)", x.part(2, -1), BAD);
        is("part(3, 0)", x.part(3, 0), UNKNOWN);
        is("part(3, 4): what is told first", x.part(3, 4), UNKNOWN);
        for (int part : OUTSIDE) {
            is("part(" + part + ", 0)", x.part(part, 0), UNKNOWN);
        }
    }

    private static void parts(IdeaCage x, int[][] want) {
        for (int part = 0; part < want.length; part++) {
            for (int what = 0; what < 4; what++) {
                is("part(" + part + ", " + what + ")", x.part(part, what), want[part][what]);
            }
        }
    }

    private static void promises8And9ColumnAt() {
        IdeaCage x = made("I9Pp0Pa0");
        Cages.put(x, "33330");
        is("column(3)", x.column(3), 4);
        is("column(0)", x.column(0), 1);
        is("column(1)", x.column(1), 0);
        is("column(4)", x.column(4), UNKNOWN);
        is("at(15)", x.at(15), 0);
        is("at(0)", x.at(0), 1);
        is("at(7)", x.at(7), NONE);
        is("at(16)", x.at(16), UNKNOWN);
        for (int n : OUTSIDE) {
            is("column(" + n + ")", x.column(n), UNKNOWN);
            is("at(" + n + ")", x.at(n), UNKNOWN);
        }
        is("at(NONE) is no cell", x.at(NONE), UNKNOWN);
    }

    private static void promise10Put() {
        IdeaCage x = made("I5Pc0Po1");
        is("put(4)", x.put(4), UNKNOWN);
        is("put(-1)", x.put(-1), UNKNOWN);
        is("put(2)", x.put(2), 1);
        is("put(2)", x.put(2), 1);
        is("put(2)", x.put(2), 1);
        is("put(2) at the top", x.put(2), 2);
        is("store", x.about(1), 1);
        is("put(2) on four", x.put(2), FULL);
        is("put(0)", x.put(0), 2);
        is("store", x.about(1), 0);
        is("put(2): what is told first", x.put(2), LATE);
        is("put(0)", x.put(0), LATE);
        is("put(4), empty store", x.put(4), UNKNOWN);
        is("acts", x.about(6), 5);
        IdeaCage none = made("I0Pa0");
        is("put without poles", none.put(0), LATE);
    }

    private static void promise11Strike() {
        IdeaCage x = made("I4Pe0Pi0");
        is("strike(4)", x.strike(4), UNKNOWN);
        is("strike(-1)", x.strike(-1), UNKNOWN);
        is("strike(0)", x.strike(0), LATE);
        Cages.put(x, "000");
        is("had", x.about(3), 3);
        is("strike: i stands on e", x.strike(0), 0);
        is("store", x.about(1), 2);
        is("strike: e falls, and i with it", x.strike(0), 2);
        is("had", x.about(3), 0);
        is("strike the last", x.strike(0), 0);
        is("store", x.about(1), 4);
        is("strike none", x.strike(0), LATE);
        is("acts", x.about(6), 6);
    }

    /** Puts, then strikes; which parts are had behind it. */
    private static void stands(String text, String put, String struck, int had) {
        IdeaCage x = made(text);
        Cages.put(x, put);
        Cages.strike(x, struck);
        is(text + " put " + put + " struck " + struck, x.about(3), had);
    }

    private static void standing() {
        stands("I2Pa1Pb2Pc0Pd3", "01", "01", 3);
        stands("I9Pe0Pa0", "00", "00", 3);
        stands("I9Pf0Pa0Pc0", "0112", "0112", 6);
        stands("I9Pf1Pe3Pg3", "001122", "001122", 7);
        stands("I9Pf1Pe3", "0011", "0011", 2);
        stands("I9Pf1Pg3", "1122", "1122", 2);
        stands("I9Pf1Pe3Pg3Pb0", "0011", "0011", 10);
        stands("I9Pe1Pf3", "0011", "0011", 2);
        stands("I9Ph1Pg3Pi3", "3322", "3322", 2);
        stands("I9Pe1Pd3Pf3", "3001", "3001", 2);
        stands("I9Pf2Pa0", "011", "011", 3);
        stands("I9Pf2Pb0", "11", "11", 3);
        stands("I9Pf2Pc0", "112", "112", 3);
        stands("I9Pf2Pd0", "113", "113", 2);
        stands("I9Pi2Pd3", "3000", "3000", 2);
        stands("I9Pe2Pd0", "300", "300", 2);
        stands("I9Ph2Pe3", "0033", "0033", 2);
        stands("I9Pf2Pe3Pg3", "001122", "001122", 6);
        stands("I9Pp3", "3333", "3333", 1);
        stands("I9Pe0Pf1Pg0", "001122", "001122", 0);
        IdeaCage stair = made("I9Pm2Pj2Pg2Pd0");
        stair.put(3);
        stair.strike(3);
        Cages.put(stair, "221110000");
        Cages.strike(stair, "000011122");
        is("a stair from d to m", stair.about(3), 15);
        IdeaCage ring = made("I9Pj1Pi2Pk2Pf0Pe0Pg0");
        Cages.put(ring, "000111222");
        is("ring had", ring.about(3), 63);
        is("a strike", ring.strike(1), 0);
        is("f keeps i, j and k", ring.strike(0), 0);
        is("then", ring.strike(2), 0);
        is("f falls; i and k stand on e and g", ring.strike(1), 1);
        is("had", ring.about(3), 0b110111);
        is("e falls, i with it, then j", ring.strike(0), 3);
        is("had", ring.about(3), 0b100100);
    }

    private static void promise12Rain() {
        IdeaCage x = made("I9Pa3Pf3Pj0Pn2Pc3");
        Cages.put(x, "0111122");
        is("had", x.about(3), 31);
        is("rain on poles", x.rain(), 0);
        Cages.strike(x, "1112");
        is("had still", x.about(3), 31);
        is("rain: f has no pole, j and n go too", x.rain(), 3);
        is("had", x.about(3), 17);
        is("rained", x.about(4), 2);
        Cages.strike(x, "02");
        is("airs on the ground", x.about(3), 17);
        is("rain on the ground", x.rain(), 2);
        is("rained", x.about(4), 3);
        is("rain on nothing", x.rain(), 0);
        is("acts", x.about(6), 14);
        is("undo", x.undo(), 13);
        is("undo", x.undo(), 12);
        is("rained", x.about(4), 2);
        is("had", x.about(3), 17);
    }

    private static void promise13Undo() {
        IdeaCage x = made("I9Pa0Pe3Pi0");
        Cages.put(x, "000");
        Cages.strike(x, "00");
        is("rain", x.rain(), 2);
        is("undo rain", x.undo(), 5);
        is("had", x.about(3), 7);
        is("rained", x.about(4), 0);
        is("undo strike", x.undo(), 4);
        is("store", x.about(1), 7);
        is("column", x.column(0), 2);
        is("undo strike", x.undo(), 3);
        is("undo put", x.undo(), 2);
        is("had", x.about(3), 3);
        is("undo put", x.undo(), 1);
        is("undo put", x.undo(), 0);
        is("store", x.about(1), 9);
        is("had", x.about(3), 0);
        is("undo none", x.undo(), LATE);
        for (int i = 0; i < 20; i++) {
            x.rain();
        }
        is("acts at most", x.about(6), 14);
        for (int left = 13; left >= 0; left--) {
            is("undo", x.undo(), left);
        }
        is("six are forgotten", x.about(4), 6);
        is("undo none", x.undo(), LATE);
        Cages.put(x, "000011112");
        is("four strikes and a put", x.strike(2), 0);
        Cages.strike(x, "100");
        x.put(3);
        is("acts at most", x.about(6), 14);
        int[] polesThen = {5, 6, 7, 8, 9, 8};
        int[] columnThen = {2, 3, 4, 4, 4, 4};
        for (int i = 0; i < polesThen.length; i++) {
            x.undo();
            is("poles after undo " + i, x.about(2), polesThen[i]);
            is("column 0 after undo " + i, x.column(0), columnThen[i]);
        }
    }

    private static void promises14And15LosesDown() {
        IdeaCage x = made("I9Pf0Pj0Pk2Pc0");
        Cages.put(x, "111222");
        is("loses(1)", x.loses(1), 0);
        is("loses(2): k stands askew on f", x.loses(2), 0);
        is("down(1)", x.down(1), 2);
        is("down(2)", x.down(2), 0);
        is("down(0)", x.down(0), 0);
        is("nothing changed", x.about(2), 6);
        Cages.strike(x, "2211");
        is("had", x.about(3), 8);
        x.undo();
        is("loses(1) now: f, j and k", x.loses(1), 7);
        is("down(1)", x.down(1), 2);
        is("down(2)", x.down(2), 0);
        is("loses(3)", x.loses(3), LATE);
        is("loses(0)", x.loses(0), LATE);
        is("loses(4)", x.loses(4), UNKNOWN);
        is("loses(-1)", x.loses(-1), UNKNOWN);
        is("down(4)", x.down(4), UNKNOWN);
        is("down(-1)", x.down(-1), UNKNOWN);
        IdeaCage high = made("I9Pm0");
        Cages.put(high, "0000");
        is("down of four", high.down(0), 4);
        is("loses of four", high.loses(0), 1);
        IdeaCage bare = made("I9");
        Cages.put(bare, "3333");
        is("down without parts", bare.down(3), 0);
    }

    private static void promise16Soon() {
        IdeaCage x = made("I2Pd0Pc0Pe0Pi0Pm0");
        is("soon(0)", x.soon(0, 0), 0);
        is("soon(0)", x.soon(0, 1), 0);
        is("soon of d", x.soon(1, 1), 4);
        is("soon of c and d", x.soon(3, 1), 34);
        is("soon of c and d", x.soon(3, 0), 2);
        is("soon of e", x.soon(4, 1), 11);
        is("soon of i, store 2", x.soon(8, 0), NONE);
        is("soon of i, store 2", x.soon(8, 1), NONE);
        is("d and e: a pole is struck on the way", x.soon(5, 0), 4);
        is("d and e: less than 4811", x.soon(5, 1), 1481);
        is("soon of c, d, e", x.soon(7, 0), NONE);
        x.put(3);
        is("had already", x.soon(1, 0), 0);
        is("e: less than 811", x.soon(4, 1), 181);
        is("e", x.soon(4, 0), 3);
        is("soon(32, 0)", x.soon(32, 0), BAD);
        is("soon(31, 0)", x.soon(31, 0), NONE);
        is("soon(-1, 0)", x.soon(-1, 0), BAD);
        is("soon(0, 2)", x.soon(0, 2), BAD);
        is("soon(0, -1)", x.soon(0, -1), BAD);
        is("soon(max, 0)", x.soon(Integer.MAX_VALUE, 0), BAD);
        is("nothing changed", x.about(2), 1);
        is("no acts", x.about(6), 1);
        IdeaCage high = made("I9Pm0Pb0");
        is("m by four", high.soon(1, 1), 1111);
        is("m and b need five", high.soon(3, 0), NONE);
        IdeaCage most = made("I9Pa0Pb0Pc0Pd0Pe0Pf0Pg0");
        is("soon(128, 0)", most.soon(128, 0), BAD);
        is("soon(15, 1)", most.soon(15, 1), 1234);
    }

    private static void promise17Judge() {
        IdeaCage x = made("I2Pa0Pe3");
        is("put, put, put", x.judge(3, 100100100L), 2);
        is("put, put", x.judge(2, 100100L), NONE);
        is("put, strike, strike", x.judge(3, 101201201L), 2);
        is("put, put, had, had", x.judge(4, 100100400401L), NONE);
        is("put, had, not had", x.judge(3, 100400401L), 2);
        is("rain", x.judge(1, 300), NONE);
        is("rain loses the air", x.judge(4, 100100200401L), NONE);
        x.put(0);
        x.put(0);
        x.strike(0);
        is("the air is had, looked at twice", x.judge(2, 401401L), NONE);
        is("rain loses the air", x.judge(3, 401300401L), 2);
        is("poles", x.judge(4, 501500510521L), 3);
        is("poles", x.judge(2, 501502L), 1);
        is("no such column", x.judge(1, 540), 0);
        is("no such column to put", x.judge(1, 104), 0);
        is("no such column to strike", x.judge(1, 204), 0);
        is("no such part", x.judge(1, 402), 0);
        is("no such part", x.judge(1, 409), 0);
        is("a middle figure", x.judge(1, 110), 0);
        is("a middle figure", x.judge(1, 210), 0);
        is("a middle figure", x.judge(1, 310), 0);
        is("a middle figure", x.judge(1, 410), 0);
        is("a last figure", x.judge(1, 301), 0);
        is("no such doing", x.judge(1, 600), 0);
        is("no such doing", x.judge(1, 0), 0);
        is("zeros ahead are a doing", x.judge(2, 300), 0);
        is("n = 0", x.judge(0, 0), BAD);
        is("n = 5", x.judge(5, 0), BAD);
        is("n = -1", x.judge(-1, 0), BAD);
        is("row -1", x.judge(1, -1), BAD);
        is("row 1000", x.judge(1, 1000), BAD);
        is("row 999", x.judge(1, 999), 0);
        is("row of 13 figures", x.judge(4, 1000000000000L), BAD);
        is("row of 12 figures", x.judge(4, 999999999999L), 0);
        is("row at most", x.judge(4, Long.MAX_VALUE), BAD);
        is("row at least", x.judge(4, Long.MIN_VALUE), BAD);
        is("nothing changed", x.about(6), 3);
        is("nothing changed", x.about(4), 0);
        is("nothing changed", x.about(3), 3);
        IdeaCage full = made("I9");
        Cages.put(full, "2222");
        is("put on four", full.judge(1, 102), 0);
        is("strike, put, put", full.judge(3, 202102102L), 2);
        is("five poles", full.judge(2, 524525L), 1);
        is("nine poles", full.judge(1, 529), 0);
    }

    private static void share(String text, int part, int above, int below) {
        IdeaCage x = made(text);
        Cages.put(x, "0123");
        is("share " + part + " of " + text, x.share(part, true), above);
        is("share " + part + " of " + text, x.share(part, false), below);
        is("share past the parts", x.share((text.length() - 2) / 3, true), UNKNOWN);
        is("share(-1)", x.share(-1, false), UNKNOWN);
    }

    private static void promise18Share() {
        share("I9Pa0", 0, 1, 1);
        share("I9Pe0", 0, 0, 1);
        share("I9Pe3", 0, 1, 1);
        share("I9Pa0Pe0", 0, 3, 2);
        share("I9Pa0Pe0", 1, 1, 2);
        // f stands between e and g: it comes last in a third of the orders, so do they.
        share("I9Pe3Pf1Pg3", 0, 4, 3);
        share("I9Pe3Pf1Pg3", 1, 1, 3);
        // Either of two below is enough: the stair is in vain only when it comes first.
        share("I9Pa0Pb0Pf2", 2, 2, 3);
        share("I9Pa0Pb0Pf2", 0, 7, 6);
        share("I9Pa0Pe0Pi0Pm0", 0, 25, 12);
        share("I9Pa0Pe0Pi0Pm0", 3, 1, 4);
        share("I0Pa0Pe0Pb0Pc0Pd0Ph3Pg3", 6, 1, 1);
        is("share of nothing", new IdeaCage().share(0, true), UNKNOWN);
    }

    private static void promises19To21Tried() {
        IdeaCage x = new IdeaCage();
        is("attempt(32, 0)", x.attempt(32, 0), BAD);
        is("attempt(-1, 0)", x.attempt(-1, 0), BAD);
        is("attempt(0, 2)", x.attempt(0, 2), BAD);
        is("attempt(0, -1)", x.attempt(0, -1), BAD);
        is("kinds(0)", x.kinds(0), 16);
        is("kinds(1)", x.kinds(1), 0);
        is("kinds(2)", x.kinds(2), BAD);
        is("kinds(-1)", x.kinds(-1), BAD);
        is("unattempt", x.unattempt(), 0);
        tried(0, 0, 9, 1);
        tried(0, 1, 7, 0);
        tried(1, 0, 3, 11);
        tried(1, 1, 13, 0);
        tried(2, 0, 9, 1);
        tried(4, 0, 9, 1);
        tried(6, 0, 6, 1);
        tried(6, 1, 10, 0);
        tried(7, 0, 0, NONE);
        tried(8, 0, 6, 1);
        tried(16, 0, 6, 1);
        tried(16, 1, 10, 0);
        tried(30, 0, 3, 1);
        tried(25, 0, 3, 11);
        tried(31, 1, 16, 0);
        for (int i = 1; i <= 6; i++) {
            is("attempt", x.attempt(31, 1), i);
        }
        is("attempt the seventh", x.attempt(0, 0), FULL);
        is("bad is told first", x.attempt(32, 0), BAD);
        is("the seventh does not count", x.kinds(0), 16);
        is("tried", x.about(7), 6);
        is("unattempt", x.unattempt(), 6);
        is("tried", x.about(7), 0);
        is("attempt", x.attempt(0, 0), 1);
        is("attempt", x.attempt(8, 1), 2);
        is("a stair, of any lift but the ground", x.kinds(0), 3);
        is("the first of them", x.kinds(1), 21);
        is("attempt", x.attempt(8, 0), 3);
        is("both can not be", x.kinds(0), 0);
        is("none", x.kinds(1), NONE);
    }

    private static void tried(int about, int stood, int count, int first) {
        IdeaCage x = new IdeaCage();
        is("attempt(" + about + ", " + stood + ")", x.attempt(about, stood), 1);
        is("kinds(0) by " + about + ", " + stood, x.kinds(0), count);
        is("kinds(1) by " + about + ", " + stood, x.kinds(1), first);
    }

    private static void promise22Rests() {
        IdeaCage x = made("I1Pa0Pb0");
        is("rests(4, 0, 0)", x.rests(4, 0, 0), UNKNOWN);
        is("rests(0, -1, 0)", x.rests(0, -1, 0), UNKNOWN);
        is("rests(4, 4, 2)", x.rests(4, 4, 2), UNKNOWN);
        is("rests(2, 2, 0)", x.rests(2, 2, 0), BAD);
        is("rests(0, 1, 2)", x.rests(0, 1, 2), BAD);
        is("rests(0, 1, -1)", x.rests(0, 1, -1), BAD);
        // One pole: the one takes it, whatever the other would.
        is("rests(0, 1, 0)", x.rests(0, 1, 0), 3);
        is("rests(0, 1, 1)", x.rests(0, 1, 1), 10);
        is("rests(1, 0, 1)", x.rests(1, 0, 1), 10);
        // Column 2 has nothing to win by a pole; column 0 puts.
        is("rests(2, 0, 0)", x.rests(2, 0, 0), 2);
        is("rests(2, 0, 1)", x.rests(2, 0, 1), 1);
        x.put(1);
        // Column 1 strikes (its part stays on the ground); then column 0 may put.
        is("rests(1, 0, 0)", x.rests(1, 0, 0), 1);
        is("rests(1, 0, 1)", x.rests(1, 0, 1), 21);
        // The other way round the store is empty when column 0 would put.
        is("rests(0, 1, 0)", x.rests(0, 1, 0), 3);
        is("rests(0, 1, 1)", x.rests(0, 1, 1), 2);
        is("nothing changed", x.about(2), 1);
        is("no acts", x.about(6), 1);
        IdeaCage free = made("I9");
        is("poles cost", free.rests(0, 3, 0), 4);
        is("the first one", free.rests(0, 3, 1), 0);
        // Column 1 strikes (j stands on f); column 0 has as much by a part more as by a pole less.
        IdeaCage even = made("I9Pi0Pf0Pj2");
        Cages.put(even, "00111");
        is("rests(1, 0, 0)", even.rests(1, 0, 0), 2);
        is("rests(1, 0, 1)", even.rests(1, 0, 1), 21);
        // Keys f and g lean on each other: either can do without its pole, both can not.
        IdeaCage keys = made("I9Pe3Pf1Pg1Ph3");
        Cages.put(keys, "0033");
        Cages.strike(keys, "0033");
        Cages.put(keys, "1122");
        is("rests(1, 2, 0)", keys.rests(1, 2, 0), 2);
        is("rests(1, 2, 1)", keys.rests(1, 2, 1), 2);
    }

    private static void wet(IdeaCage x, int m, int tenths, int above, int below) {
        is("wet(" + m + ", " + tenths + ") above", x.wet(m, tenths, true), above);
        is("wet(" + m + ", " + tenths + ") below", x.wet(m, tenths, false), below);
    }

    private static void promise23Wet() {
        IdeaCage x = made("I9Pe0Pf0Pg0Ph0");
        wet(x, 0, 5, 1, 1);
        wet(x, 1, 5, 0, 1);
        Cages.put(x, "00");
        wet(x, 1, 0, 1, 1);
        wet(x, 1, 10, 0, 1);
        wet(x, 1, 3, 7, 10);
        wet(x, 1, 4, 3, 5);
        Cages.put(x, "11");
        wet(x, 1, 5, 3, 4);
        wet(x, 2, 5, 1, 4);
        wet(x, 2, 3, 49, 100);
        wet(x, 3, 3, 0, 1);
        Cages.put(x, "2233");
        wet(x, 4, 1, 6561, 10000);
        wet(x, 1, 9, 3439, 10000);
        is("wet(8, 0)", x.wet(8, 0, true), BAD);
        is("wet(7, 0)", x.wet(7, 0, true), 0);
        is("wet(-1, 0)", x.wet(-1, 0, true), BAD);
        is("wet(0, 11)", x.wet(0, 11, false), BAD);
        is("wet(0, -1)", x.wet(0, -1, false), BAD);
        is("nothing changed", x.about(2), 8);
        is("nothing changed", x.about(3), 15);
        IdeaCage air = made("I9Pe3Pi0");
        Cages.put(air, "000");
        Cages.strike(air, "0");
        wet(air, 2, 10, 1, 1);
        // One top pole alone goes from each, and f's stair rests on either.
        IdeaCage two = made("I9Pe0Pf0Pj2");
        Cages.put(two, "00111");
        two.strike(1);
        wet(two, 2, 5, 3, 4);
        wet(two, 3, 5, 1, 4);
        wet(two, 1, 5, 3, 4);
    }

    private static void promises24And25SeedTerms() {
        IdeaCage x = made("I9Pa0Pb0Pc0Pd0");
        is("seed", x.seed(Long.MIN_VALUE), 0);
        is("seed", x.seed(Long.MAX_VALUE), Long.MIN_VALUE);
        is("seed", x.seed(0), Long.MAX_VALUE);
        is("terms(0)", x.terms(0), BAD);
        is("terms(31)", x.terms(31), BAD);
        is("terms(-1)", x.terms(-1), BAD);
        is("refused: the seed stays", x.seed(0), 0);
        // From 0 the terms are 15 (rain), 8 and 1 (puts), 4 (a put), 13 (a strike), 11 (can't be).
        is("a term of rain", x.terms(1), 0);
        is("the seed goes on", x.seed(0), 1442695040888963407L);
        is("six terms", x.terms(6), 9);
        x.seed(0);
        is("three terms", x.terms(3), 3);
        is("the seed wraps", x.seed(0), -7280499659394350823L);
        is("six terms with one pole", made("I1Pa0Pb0").terms(6), 5);
        is("nothing else changes", x.about(3), 0);
        is("nothing else changes", x.about(1), 9);
        is("nothing else changes", x.about(6), 0);
        int whole = x.terms(30);
        long end = x.seed(0);
        is("the same again", x.terms(30), whole);
        is("the same seed", x.seed(0), end);
        for (int i = 0; i < 30; i++) {
            x.terms(1);
        }
        is("thirty by one reach the same seed", x.seed(0), end);
    }

    /** The seed behind which the next term is told: the step taken backwards. */
    private static long seedBefore(int term) {
        BigInteger whole = BigInteger.ONE.shiftLeft(64);
        BigInteger times = new BigInteger("6364136223846793005");
        BigInteger next = BigInteger.valueOf(term).add(BigInteger.valueOf(16L * 99999999L)).shiftLeft(33);
        return next.subtract(new BigInteger("1442695040888963407"))
                .multiply(times.modInverse(whole)).mod(whole).longValue();
    }

    private static int oneTerm(IdeaCage x, int term) {
        x.seed(seedBefore(term));
        return x.terms(1);
    }

    private static void eachTerm() {
        for (int column = 0; column < 4; column++) {
            IdeaCage low = made("I4P" + (char) ('a' + column) + "0");
            IdeaCage high = made("I2P" + (char) ('e' + column) + "0");
            high.put(column);
            high.put(column);
            for (int term = 0; term < 16; term++) {
                boolean here = term % 4 == column;
                is("term " + term + " puts", oneTerm(low, term), here && term <= 8 ? 1 : 0);
                is("term " + term + " strikes", oneTerm(high, term),
                        here && term >= 9 && term <= 14 ? 0 : 1);
            }
        }
        IdeaCage air = made("I1Pe3");
        IdeaCage both = made("I2Pe3");
        Cages.put(both, "00");
        Cages.strike(both, "00");
        for (int term = 0; term < 16; term++) {
            is("term " + term + " on nothing", oneTerm(air, term), 0);
            is("term " + term + " rains", oneTerm(both, term), term == 15 ? 0 : 1);
        }
    }

    private static void promises26And27Slots() {
        IdeaCage x = made("I5Pa3Pe0");
        is("keep(2)", x.keep(2), UNKNOWN);
        is("keep(-1)", x.keep(-1), UNKNOWN);
        is("again(2)", x.again(2), UNKNOWN);
        is("again(-1)", x.again(-1), UNKNOWN);
        is("again(0)", x.again(0), LATE);
        is("keep nothing", x.keep(1), 0);
        is("again(0)", x.again(0), LATE);
        Cages.put(x, "003");
        is("keep(0)", x.keep(0), 3);
        is("acts stay when kept", x.about(6), 3);
        Cages.strike(x, "003");
        x.rain();
        is("had", x.about(3), 0);
        is("again(0)", x.again(0), 3);
        is("had", x.about(3), 3);
        is("store", x.about(1), 2);
        is("rained", x.about(4), 0);
        is("column", x.column(0), 2);
        is("acts", x.about(6), 0);
        is("undo", x.undo(), LATE);
        x.rain();
        is("keep anew", x.keep(0), 3);
        is("again(1)", x.again(1), 0);
        is("had", x.about(3), 0);
        is("store", x.about(1), 5);
        is("rained", x.about(4), 0);
        is("again(0)", x.again(0), 3);
        is("rained", x.about(4), 1);
        x.strike(0);
        is("again once more", x.again(0), 3);
    }

    private static void refusedChangesNothing() {
        IdeaCage x = made("I4Pa0Pe0");
        Cages.put(x, "0000");
        x.attempt(1, 1);
        x.keep(0);
        long before = look(x);
        x.put(0);
        x.put(4);
        x.strike(1);
        x.strike(9);
        x.loses(2);
        x.down(7);
        x.soon(9, 0);
        x.judge(0, 0);
        x.judge(1, 104);
        x.share(2, true);
        x.attempt(40, 0);
        x.kinds(3);
        x.rests(0, 0, 0);
        x.wet(9, 9, true);
        x.terms(0);
        x.keep(5);
        x.again(1);
        x.again(5);
        x.write(300);
        is("what is refused changes nothing", look(x), before);
    }

    private static long look(IdeaCage x) {
        long all = 0;
        for (int what = 0; what <= 8; what++) {
            all = all * 31 + x.about(what);
        }
        long seed = x.seed(0);
        x.seed(seed);
        return all * 31 + seed;
    }
}
