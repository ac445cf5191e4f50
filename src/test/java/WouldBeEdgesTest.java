/** Promises 14 to 18, what would be: each sentence that names a boundary case, by itself. */
public final class WouldBeEdgesTest {
    private static final int UNKNOWN = -1, BAD = -2, LATE = -3, NONE = -9;
    private static final int[] OUTSIDE = {-1, 4, Integer.MIN_VALUE, 1 << 30, Integer.MAX_VALUE};
    private static final Due DUE = new Due();

    public static void main(String[] args) {
        leftIsNoneToAll();
        losesIsUnknown();
        losesIsLate();
        losesIsNoneToAll();
        downIsUnknown();
        downIs0WithoutPoles();
        downIs0To4();
        soonIsBadByParts();
        soonIsBadByWhat();
        soonIs0To4Acts();
        soonIsNone();
        soonAsItCanBe();
        soonTellsEachFigure();
        soonTellsTheLeast();
        soonLosesOnTheWay();
        judgeIsBadByN();
        judgeIsBadByRow();
        judgeOfPuts();
        judgeOfStrikes();
        judgeOfRains();
        judgeOfParts();
        judgeOfPoles();
        judgeOfNoDoings();
        judgeTellsTheFirst();
        judgeOneBehindTheOther();
        shareIsUnknown();
        shareInLeastTerms();
        shareOfSeven();
        shareWhateverIsHad();
        DUE.end();
    }

    private static void is(String call, long got, long want) {
        DUE.is(call, got, want);
    }

    private static IdeaCage tree(String kindOfF) {
        IdeaCage x = Cages.made("I9Pf" + kindOfF + "Pi2Pj0Pk2Pm0Pn0Po0");
        Cages.put(x, "1111");
        Cages.strike(x, "11");
        Cages.put(x, "0000");
        Cages.strike(x, "0000");
        Cages.put(x, "2222");
        Cages.strike(x, "2222");
        return x;
    }

    // ---- LEFT

    private static void leftIsNoneToAll() {
        DUE.sentence("LEFT: PARTS (bits) that are HAD, if all POLES are STRUCK");
        is("of nothing", new IdeaCage().about(5), 0);
        IdeaCage x = tree("0");
        is("had", x.about(3), 127);
        is("f has no ground: none is left", x.about(5), 0);
        is("poles", x.about(2), 2);
        IdeaCage air = tree("3");
        is("f is an air: all are left", air.about(5), 127);
        IdeaCage some = Cages.made("I9Pe0Pa0Pf0");
        Cages.put(some, "0011");
        is("e stands on a, f on none", some.about(5), 3);
    }

    // ---- 14 loses

    private static void losesIsUnknown() {
        DUE.sentence("Promise 14: UNKNOWN");
        IdeaCage x = Cages.made("I9Pa0");
        Cages.put(x, "0123");
        for (int column : OUTSIDE) {
            is("loses(" + column + ")", x.loses(column), UNKNOWN);
        }
        is("of several the first", new IdeaCage().loses(4), UNKNOWN);
    }

    private static void losesIsLate() {
        DUE.sentence("Promise 14: LATE: there is none");
        for (int column = 0; column < 4; column++) {
            IdeaCage x = Cages.made("I9");
            Cages.put(x, "0123".replace("" + column, ""));
            is("loses(" + column + ")", x.loses(column), LATE);
            x.put(column);
            is("loses(" + column + ") of one", x.loses(column), 0);
            x.strike(column);
            is("loses(" + column + ") of none", x.loses(column), LATE);
        }
    }

    private static void losesIsNoneToAll() {
        DUE.sentence("LOSES: PARTS (bits) that are LOST, if its top one is STRUCK");
        IdeaCage x = tree("0");
        is("all of them", x.loses(1), 127);
        is("nothing is changed", x.about(3), 127);
        is("nothing is changed", x.column(1), 2);
        x.put(1);
        is("j stands on f", x.loses(1), 0);
        for (int cell = 4; cell < 16; cell++) {
            IdeaCage one = Cages.made("I9Pa0P" + (char) ('a' + cell) + "1Pd0");
            for (int lift = 0; lift <= cell / 4; lift++) {
                one.put(cell % 4);
            }
            is("a part with no more than its pole", one.loses(cell % 4), 2);
            if (cell < 12) {
                one.put(cell % 4);
                is("the top pole alone is struck", one.loses(cell % 4), 0);
            }
        }
    }

    // ---- 15 down

    private static void downIsUnknown() {
        DUE.sentence("Promise 15: UNKNOWN");
        IdeaCage x = Cages.made("I9");
        for (int column : OUTSIDE) {
            is("down(" + column + ")", x.down(column), UNKNOWN);
        }
    }

    private static void downIs0WithoutPoles() {
        DUE.sentence("DOWN of a COLUMN that has no POLES");
        IdeaCage x = Cages.made("I9Pa0");
        x.put(0);
        for (int column = 1; column < 4; column++) {
            is("down(" + column + ")", x.down(column), 0);
        }
    }

    private static void downIs0To4() {
        DUE.sentence("DOWN: the fewest POLES (0 .. 4), so that no PART is LOST");
        for (int cell = 0; cell < 16; cell++) {
            int column = cell % 4;
            int lift = cell / 4;
            IdeaCage x = Cages.made("I9P" + (char) ('a' + cell) + "0");
            IdeaCage air = Cages.made("I9P" + (char) ('a' + cell) + "3");
            for (int poles = 1; poles <= 4; poles++) {
                x.put(column);
                air.put(column);
                is("down of " + poles + " at cell " + cell, x.down(column), lift == 0 || poles <= lift ? 0 : lift + 1);
                is("down of " + poles + " at an air", air.down(column), 0);
                is("nothing is changed", x.column(column), poles);
            }
        }
        IdeaCage bare = Cages.made("I9");
        Cages.put(bare, "3333");
        is("without parts", bare.down(3), 0);
        IdeaCage two = Cages.made("I9Pe0Pm0");
        Cages.put(two, "0000");
        is("the topmost is lost first", two.down(0), 4);
    }

    // ---- 16 soon

    private static void soonIsBadByParts() {
        DUE.sentence("Promise 16: BAD: parts (0 .. 2 to the power of PARTS, less 1)");
        for (int parts = 0; parts <= 7; parts++) {
            IdeaCage x = Cages.made("I9" + "Pa0Pb0Pc0Pd0Pe0Pf0Pg0".substring(0, 3 * parts));
            int all = (1 << parts) - 1;
            is("all of " + parts, x.soon(all, 0), parts <= 4 ? parts : NONE);
            is("one more", x.soon(all + 1, 0), BAD);
            is("one more", x.soon(all + 1, 1), BAD);
            is("-1", x.soon(-1, 0), BAD);
            is("least", x.soon(Integer.MIN_VALUE, 0), BAD);
            is("most", x.soon(Integer.MAX_VALUE, 1), BAD);
            is("128", x.soon(128, 0), BAD);
            is("65536", x.soon(65536, 0), BAD);
        }
    }

    private static void soonIsBadByWhat() {
        DUE.sentence("Promise 16: BAD: what");
        IdeaCage x = Cages.made("I9Pa0");
        for (int what : new int[] {-1, 2, Integer.MIN_VALUE, Integer.MAX_VALUE}) {
            is("soon(1, " + what + ")", x.soon(1, what), BAD);
            is("soon(0, " + what + ")", x.soon(0, what), BAD);
            is("soon(2, " + what + ")", x.soon(2, what), BAD);
        }
        is("soon(1, 0)", x.soon(1, 0), 1);
        is("soon(1, 1)", x.soon(1, 1), 1);
    }

    private static void soonIs0To4Acts() {
        DUE.sentence("SOON: the fewest ACTS (0 .. 4): how many; which (0: none)");
        IdeaCage x = Cages.made("I9Pa0Pe0Pi0Pm0");
        int[] rows = {0, 1, 11, 111, 1111};
        for (int acts = 0; acts <= 4; acts++) {
            int parts = (1 << acts) - 1;
            is("soon of " + acts, x.soon(parts, 0), acts);
            is("soon of " + acts, x.soon(parts, 1), rows[acts]);
            is("its last alone", x.soon(parts - parts / 2, 1), rows[acts]);
        }
        Cages.put(x, "0000");
        is("all are had", x.soon(15, 0), 0);
        is("all are had", x.soon(15, 1), 0);
        Cages.strike(x, "0000");
        is("had without poles", x.soon(15, 0), 0);
        is("none is asked", x.soon(0, 1), 0);
    }

    private static void soonIsNone() {
        DUE.sentence("SOON: (0 .. 4); NONE");
        IdeaCage five = Cages.made("I9Pm0Pb0");
        is("five acts", five.soon(3, 0), NONE);
        is("five acts", five.soon(3, 1), NONE);
        five.put(1);
        is("four are left", five.soon(3, 0), 4);
        is("four are left", five.soon(3, 1), 1111);
        IdeaCage three = Cages.made("I3Pm0");
        is("three poles do not reach m", three.soon(1, 0), NONE);
        is("three poles do not reach m", three.soon(1, 1), NONE);
        is("four do", Cages.made("I4Pm0").soon(1, 1), 1111);
        IdeaCage none = Cages.made("I0Pa0");
        is("no poles", none.soon(1, 0), NONE);
        is("no poles", none.soon(1, 1), NONE);
        is("no poles, none asked", none.soon(0, 0), 0);
    }

    private static void soonAsItCanBe() {
        DUE.sentence("SOON: one after the other, each as it can be");
        IdeaCage x = Cages.made("I1Pe0");
        is("one pole does not reach e", x.soon(1, 0), NONE);
        IdeaCage empty = Cages.made("I1Pa0Pb0");
        empty.put(0);
        is("an empty store: a strike comes first", empty.soon(2, 0), 2);
        is("an empty store: a strike comes first", empty.soon(2, 1), 52);
        IdeaCage last = Cages.made("I2Pa0Pb0");
        last.put(0);
        is("the last pole", last.soon(2, 1), 2);
        IdeaCage two = Cages.made("I2Pe0Pb0");
        two.put(1);
        two.put(3);
        is("two strikes, two puts", two.soon(1, 0), 4);
        is("the least of these", two.soon(1, 1), 6181);
    }

    private static void soonTellsEachFigure() {
        DUE.sentence("SOON: 1 .. 4 PUT on COLUMN 0 .. 3, 5 .. 8 STRUCK from COLUMN 0 .. 3");
        for (int from = 0; from < 4; from++) {
            IdeaCage x = Cages.made("I1Pa0Pb0Pc0Pd0");
            is("put on " + from, x.soon(1 << from, 1), 1 + from);
            x.put(from);
            for (int to = 0; to < 4; to++) {
                is("from " + from + " to " + to, x.soon(1 << to, 0), to == from ? 0 : 2);
                is("from " + from + " to " + to, x.soon(1 << to, 1), to == from ? 0 : 10 * (5 + from) + 1 + to);
            }
        }
    }

    private static void soonTellsTheLeast() {
        DUE.sentence("SOON: of like ones the least");
        IdeaCage x = Cages.made("I9Pd0Pc0Pb0Pa0");
        is("four puts", x.soon(15, 1), 1234);
        is("two puts", x.soon(5, 1), 24);
        IdeaCage poles = Cages.made("I3Pd0");
        Cages.put(poles, "012");
        is("the least strike first", poles.soon(1, 1), 54);
        poles.strike(0);
        poles.put(1);
        is("the least strike that can be", poles.soon(1, 1), 64);
    }

    private static void soonLosesOnTheWay() {
        DUE.sentence("SOON: behind which all of these are HAD");
        IdeaCage x = Cages.made("I2Pe0Pb0");
        Cages.put(x, "00");
        // e falls by the strike; b stays on the ground without its pole, which goes back to e.
        is("e is had anew", x.soon(3, 0), 4);
        is("e is had anew", x.soon(3, 1), 5261);
        is("b alone", x.soon(2, 1), 52);
        IdeaCage air = Cages.made("I2Pe3Pb0");
        Cages.put(air, "00");
        is("an air stays", air.soon(3, 1), 52);
        IdeaCage both = Cages.made("I3Pe0Pf0");
        Cages.put(both, "00");
        is("three poles for two in lift 1", both.soon(3, 0), NONE);
        is("nothing is changed", both.about(3), 1);
        is("nothing is changed", both.about(6), 2);
    }

    // ---- 17 judge

    private static void judgeIsBadByN() {
        DUE.sentence("Promise 17: BAD: n (1 .. 4)");
        IdeaCage x = Cages.made("I9");
        for (int n : new int[] {-1, 0, 5, Integer.MIN_VALUE, Integer.MAX_VALUE, 65537}) {
            is("judge(" + n + ", 300)", x.judge(n, 300), BAD);
            is("judge(" + n + ", 0)", x.judge(n, 0), BAD);
            is("judge(" + n + ", -1)", x.judge(n, -1), BAD);
        }
        is("judge(1, ..)", x.judge(1, 300), NONE);
        is("judge(4, ..)", x.judge(4, 300300300300L), NONE);
    }

    private static void judgeIsBadByRow() {
        DUE.sentence("Promise 17: BAD: row (0 or more, 3 n figures at most)");
        IdeaCage x = Cages.made("I9");
        long most = 1;
        for (int n = 1; n <= 4; n++) {
            most *= 1000;
            is("3 n figures", x.judge(n, most - 1), 0);
            is("a figure more", x.judge(n, most), BAD);
            is("0", x.judge(n, 0), 0);
            is("-1", x.judge(n, -1), BAD);
            is("least", x.judge(n, Long.MIN_VALUE), BAD);
            is("most", x.judge(n, Long.MAX_VALUE), BAD);
            is("more than 32 bits", x.judge(n, (1L << 32) + 300), n < 4 ? BAD : 0);
            is("minus a doing", x.judge(n, -300), BAD);
        }
        is("nine figures and one", x.judge(3, 1300300300L), BAD);
        is("nine figures", x.judge(3, 300300300L), NONE);
    }

    private static void judgeOfPuts() {
        DUE.sentence("JUDGED: 1, 0, a COLUMN: PUT: the first that can not be");
        IdeaCage x = Cages.made("I9");
        for (int last = 0; last <= 9; last++) {
            is("put on " + last, x.judge(1, 100 + last), last < 4 ? NONE : 0);
            for (int middle = 1; middle <= 9; middle++) {
                is("a middle figure", x.judge(1, 100 + 10 * middle + last), 0);
            }
        }
        for (int column = 0; column < 4; column++) {
            IdeaCage full = Cages.made("I5");
            Cages.put(full, ("" + column).repeat(3));
            is("a fourth, a fifth", full.judge(2, 1001L * (100 + column)), 1);
            IdeaCage empty = Cages.made("I1");
            is("the last pole", empty.judge(2, 1001L * (100 + column)), 1);
            empty.put((column + 1) % 4);
            is("an empty store", empty.judge(1, 100 + column), 0);
        }
    }

    private static void judgeOfStrikes() {
        DUE.sentence("JUDGED: 2, 0, a COLUMN: STRUCK: the first that can not be");
        IdeaCage x = Cages.made("I9");
        Cages.put(x, "0123");
        for (int last = 0; last <= 9; last++) {
            is("strike from " + last, x.judge(1, 200 + last), last < 4 ? NONE : 0);
            for (int middle = 1; middle <= 9; middle++) {
                is("a middle figure", x.judge(1, 200 + 10 * middle + last), 0);
            }
        }
        for (int column = 0; column < 4; column++) {
            is("one, then none", x.judge(2, 1001L * (200 + column)), 1);
        }
        is("none at all", new IdeaCage().judge(1, 200), 0);
    }

    private static void judgeOfRains() {
        DUE.sentence("JUDGED: 3, 0, 0: RAINED");
        IdeaCage x = new IdeaCage();
        is("rain", x.judge(1, 300), NONE);
        for (int rest = 1; rest <= 99; rest++) {
            is("no such doing", x.judge(1, 300 + rest), 0);
        }
        is("four rains", x.judge(4, 300300300300L), NONE);
        is("it did not rain", x.about(4), 0);
    }

    private static void judgeOfParts() {
        DUE.sentence("JUDGED: 4, 0, a PART: it is HAD (or is not so)");
        IdeaCage x = Cages.made("I9Pa0Pb0Pc0Pd0Pe0Pf0Pg0");
        for (int part = 0; part <= 9; part++) {
            is("not had yet", x.judge(1, 400 + part), 0);
        }
        Cages.put(x, "0123012");
        for (int part = 0; part <= 9; part++) {
            is("had", x.judge(1, 400 + part), part < 7 ? NONE : 0);
            for (int middle = 1; middle <= 9; middle++) {
                is("a middle figure", x.judge(1, 400 + 10 * middle + part), 0);
            }
        }
        IdeaCage few = Cages.made("I9Pa0Pb0");
        Cages.put(few, "0123");
        is("the last part", few.judge(1, 401), NONE);
        is("there is no such PART", few.judge(1, 402), 0);
    }

    private static void judgeOfPoles() {
        DUE.sentence("JUDGED: 5, a COLUMN, v: it has v POLES or more");
        IdeaCage x = Cages.made("I9");
        Cages.put(x, "122233330".substring(0, 8));
        int[] poles = {0, 1, 3, 4};
        for (int column = 0; column <= 9; column++) {
            for (int v = 0; v <= 9; v++) {
                boolean isSo = column < 4 && poles[column] >= v;
                is("column " + column + " has " + v, x.judge(1, 500 + 10 * column + v), isSo ? NONE : 0);
            }
        }
    }

    private static void judgeOfNoDoings() {
        DUE.sentence("JUDGED: what is told as none of the five can not be");
        IdeaCage x = Cages.made("I9Pa0");
        Cages.put(x, "0123");
        for (int doing = 0; doing <= 99; doing++) {
            is("doing " + doing, x.judge(1, doing), 0);
        }
        for (int doing = 600; doing <= 999; doing++) {
            is("doing " + doing, x.judge(1, doing), 0);
        }
    }

    private static void judgeTellsTheFirst() {
        DUE.sentence("JUDGED: the place of the first that can not be; NONE: none");
        IdeaCage x = Cages.made("I9");
        for (int n = 1; n <= 4; n++) {
            for (int bad = 0; bad < 1 << n; bad++) {
                long row = 0;
                for (int place = 0; place < n; place++) {
                    row = row * 1000 + ((bad >> place & 1) == 1 ? 999 : 300);
                }
                is("judge(" + n + ", " + row + ")", x.judge(n, row), bad == 0 ? NONE : Integer.numberOfTrailingZeros(bad));
            }
        }
        is("figures that are not told are 0", x.judge(4, 300), 0);
    }

    private static void judgeOneBehindTheOther() {
        DUE.sentence("JUDGED: n doings, each behind the ones before it; nothing is changed");
        IdeaCage x = Cages.made("I2Pe3Pa0");
        is("e behind two puts", x.judge(4, 100400100400L), 1);
        is("e behind two puts", x.judge(3, 100100400L), NONE);
        is("poles as they are put", x.judge(4, 100501100502L), NONE);
        is("and struck", x.judge(4, 100200501300L), 2);
        is("the store has it again", x.judge(4, 100101201102L), NONE);
        is("the store is empty", x.judge(4, 100101102201L), 2);
        Cages.put(x, "00");
        x.strike(0);
        is("an air, till it rains", x.judge(3, 400300400L), 2);
        is("an air, had again and again", x.judge(4, 400510400400L), NONE);
        is("rain, then no air", x.judge(2, 300400L), 1);
        is("its pole, then rain", x.judge(3, 100300400L), NONE);
        is("about(2)", x.about(2), 1);
        is("about(3)", x.about(3), 3);
        is("about(4)", x.about(4), 0);
        is("about(6)", x.about(6), 3);
    }

    // ---- 18 share

    private static void shareIsUnknown() {
        DUE.sentence("Promise 18: UNKNOWN");
        for (int parts = 0; parts <= 7; parts++) {
            IdeaCage x = Cages.made(Cages.SEVEN.substring(0, 2 + 3 * parts));
            is("share(" + parts + ", true)", x.share(parts, true), UNKNOWN);
            is("share(" + parts + ", false)", x.share(parts, false), UNKNOWN);
            for (int part : new int[] {-1, 7, 31, 32, Integer.MIN_VALUE, Integer.MAX_VALUE}) {
                is("share(" + part + ", true)", x.share(part, true), UNKNOWN);
                is("share(" + part + ", false)", x.share(part, false), UNKNOWN);
            }
        }
    }

    private static void share(IdeaCage x, int part, int above, int below) {
        is("share(" + part + ", true)", x.share(part, true), above);
        is("share(" + part + ", false)", x.share(part, false), below);
    }

    private static void shareInLeastTerms() {
        DUE.sentence("FRACTIONS are told above (upper = true), below, in least terms");
        for (int kind = 0; kind < 4; kind++) {
            share(Cages.made("I0Pa" + kind), 0, 1, 1);
            share(Cages.made("I0Pp" + kind), 0, kind == 3 ? 1 : 0, 1);
        }
        IdeaCage none = Cages.made("I9Pf0Pi2Pj0Pk2Pm0Pn0Po0");
        IdeaCage all = Cages.made("I9Pf3Pi3Pj3Pk3Pm3Pn3Po3");
        for (int part = 0; part < 7; part++) {
            share(none, part, 0, 1);
            share(all, part, 1, 1);
        }
        IdeaCage two = Cages.made("I0Pa0Pe0Pb0Pc0Pd0");
        share(two, 0, 3, 2);
        share(two, 1, 1, 2);
        share(two, 4, 1, 1);
    }

    private static void shareOfSeven() {
        DUE.sentence("SHARE: in each order as likely, by how many in the mean PARTS that STAND are more");
        // n is a key between m (on i, e and a) and o (on k, an air): it stands with all seven alone.
        IdeaCage x = Cages.made("I9Pa0Pe0Pi0Pm0Pk3Po0Pn1");
        share(x, 0, 187, 84);
        share(x, 1, 103, 84);
        share(x, 2, 61, 84);
        share(x, 3, 11, 28);
        share(x, 4, 23, 14);
        share(x, 5, 9, 14);
        share(x, 6, 1, 7);
    }

    private static void shareWhateverIsHad() {
        DUE.sentence("SHARE: (others are not; no POLES anywhere)");
        IdeaCage x = Cages.made("I9Pa0Pe0Pf0");
        share(x, 0, 3, 2);
        share(x, 2, 0, 1);
        Cages.put(x, "0011");
        is("all are had", x.about(3), 7);
        share(x, 0, 3, 2);
        share(x, 1, 1, 2);
        share(x, 2, 0, 1);
        is("nothing is changed", x.about(3), 7);
        is("nothing is changed", x.about(2), 4);
    }
}
