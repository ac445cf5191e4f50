import java.util.ArrayList;
import java.util.List;

/**
 * "What is refused changes nothing" and "In what follows nothing is changed": each call beside a
 * twin on which it is not called; then both are asked for all that they hold.
 */
public final class UnchangedTest {
    private static final int UNKNOWN = -1, BAD = -2, LATE = -3, FULL = -4;
    private static final int[] SMALL = {-1, 0, 1, 3, 4, 7, 9, 16, 31, 32, 256, Integer.MIN_VALUE, Integer.MAX_VALUE};
    private static final long[] ROWS = {-1, 0, 100, 203, 300, 402, 530, 1000, 300100203L, 999999999999L, 1000000000000L};
    private static final int STATES = 5;
    private static final Due DUE = new Due();

    private interface Call {
        long on(IdeaCage x);
    }

    private static final class Named {
        final String name;
        final Call call;

        Named(String name, Call call) {
            this.name = name;
            this.call = call;
        }
    }

    public static void main(String[] args) {
        List<Named> refused = mayBeRefused();
        List<Named> asks = asks();
        int seen = 0;
        for (int state = 0; state < STATES; state++) {
            String want = all(made(state));
            DUE.sentence("What is refused changes nothing: state " + state);
            for (Named one : refused) {
                seen += refusedChangesNothing(state, one, want) ? 1 : 0;
            }
            DUE.sentence("In what follows nothing is changed: state " + state);
            for (Named one : asks) {
                IdeaCage x = made(state);
                one.call.on(x);
                DUE.same(one.name, all(x), want);
            }
        }
        System.out.println(seen + " refused calls");
        DUE.end();
    }

    private static boolean refusedChangesNothing(int state, Named one, String want) {
        IdeaCage x = made(state);
        long answer = one.call.on(x);
        if (answer != UNKNOWN && answer != BAD && answer != LATE && answer != FULL) {
            return false;
        }
        DUE.same(one.name + " refused by " + answer, all(x), want);
        return true;
    }

    /** Calls that change something when they are not refused; terms is one, by its seed. */
    private static List<Named> mayBeRefused() {
        List<Named> calls = new ArrayList<>();
        calls.add(new Named("idea()", x -> x.idea()));
        calls.add(new Named("undo()", x -> x.undo()));
        for (int n : SMALL) {
            calls.add(new Named("write(" + n + ")", x -> x.write(n)));
            calls.add(new Named("put(" + n + ")", x -> x.put(n)));
            calls.add(new Named("strike(" + n + ")", x -> x.strike(n)));
            calls.add(new Named("attempt(" + n + ", 0)", x -> x.attempt(n, 0)));
            calls.add(new Named("attempt(5, " + n + ")", x -> x.attempt(5, n)));
            calls.add(new Named("terms(" + n + ")", x -> x.terms(n)));
            calls.add(new Named("keep(" + n + ")", x -> x.keep(n)));
            calls.add(new Named("again(" + n + ")", x -> x.again(n)));
        }
        return calls;
    }

    /** Calls that never change anything, answered or refused. */
    private static List<Named> asks() {
        List<Named> calls = new ArrayList<>();
        calls.add(new Named("fault()", x -> x.fault()));
        calls.add(new Named("about(5)", x -> x.about(5)));
        for (int n : SMALL) {
            calls.add(new Named("about(" + n + ")", x -> x.about(n)));
            calls.add(new Named("column(" + n + ")", x -> x.column(n)));
            calls.add(new Named("at(" + n + ")", x -> x.at(n)));
            calls.add(new Named("loses(" + n + ")", x -> x.loses(n)));
            calls.add(new Named("down(" + n + ")", x -> x.down(n)));
            calls.add(new Named("share(" + n + ")", x -> x.share(n, true)));
            calls.add(new Named("kinds(" + n + ")", x -> x.kinds(n)));
            for (int k : new int[] {-1, 0, 1, 2, 3, 10, 11}) {
                calls.add(new Named("part(" + n + ", " + k + ")", x -> x.part(n, k)));
                calls.add(new Named("soon(" + n + ", " + k + ")", x -> x.soon(n, k)));
                calls.add(new Named("rests(" + n + ", " + k + ", 0)", x -> x.rests(n, k, 0)));
                calls.add(new Named("rests(" + k + ", 2, " + n + ")", x -> x.rests(k, 2, n)));
                calls.add(new Named("wet(" + n + ", " + k + ")", x -> x.wet(n, k, false)));
            }
        }
        for (long row : ROWS) {
            for (int n = 0; n <= 5; n++) {
                int doings = n;
                calls.add(new Named("judge(" + n + ", " + row + ")", x -> x.judge(doings, row)));
            }
        }
        return calls;
    }

    private static IdeaCage made(int state) {
        IdeaCage x = new IdeaCage();
        if (state == 1) {
            Cages.anew(x, "I0");
            x.write('P');
        }
        if (state == 2) {
            Cages.anew(x, "I9Pe0Pf1Pg2Pa3Pc0Ph3");
            Cages.put(x, "001");
            x.keep(0);
            Cages.put(x, "12203");
            x.rain();
            x.strike(0);
            x.attempt(8, 1);
            x.seed(-5);
        }
        if (state == 3) {
            full(x);
        }
        if (state == 4) {
            full(x);
            x.keep(0);
            x.again(1);
            x.wipe();
        }
        return x;
    }

    /** A full text, an empty store, a full column, six tries, fourteen acts, one slot. */
    private static void full(IdeaCage x) {
        Cages.anew(x, Cages.SEVEN);
        Cages.put(x, "3333");
        x.rain();
        x.keep(1);
        Cages.put(x, "00112");
        Cages.rain(x, 6);
        for (int i = 0; i < 6; i++) {
            x.attempt(i, i % 2);
        }
        x.seed(Long.MAX_VALUE);
        Cages.write(x, "Pg0Ph0Pi0");
    }

    /** All that an object holds, at last by what uses it up. */
    private static String all(IdeaCage x) {
        StringBuilder told = new StringBuilder();
        frame(x, told);
        for (int what : new int[] {0, 6, 7, 8}) {
            told.append(x.about(what)).append(' ');
        }
        for (int part = 0; part < 7; part++) {
            told.append(x.part(part, 0)).append('k').append(x.part(part, 1)).append(' ');
        }
        told.append("kinds ").append(x.kinds(0)).append(' ').append(x.kinds(1));
        told.append(" fault ").append(x.fault()).append(" seed ").append(x.seed(1)).append(" acts");
        for (int i = 0; i < 15 && x.undo() >= 0; i++) {
            frame(x, told);
        }
        for (int slot = 0; slot < 2; slot++) {
            told.append(" slot ").append(x.again(slot)).append(' ');
            frame(x, told);
        }
        told.append(" idea ").append(x.idea()).append(" tries ").append(x.attempt(0, 1));
        told.append(' ').append(x.unattempt()).append(" text ").append(x.write('P'));
        return told.append(' ').append(x.fault()).append(' ').append(x.wipe()).toString();
    }

    private static void frame(IdeaCage x, StringBuilder told) {
        told.append('(').append(Cages.columns(x));
        for (int what = 1; what <= 4; what++) {
            told.append(' ').append(x.about(what));
        }
        told.append(")");
    }
}
