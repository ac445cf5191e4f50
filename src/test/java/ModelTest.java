import java.util.Random;

/** Long runs of calls by fixed seeds, each answer looked at against the plain model. */
public final class ModelTest {
    private final Due due = new Due();
    private IdeaCage cage;
    private Model model;
    private Random lots;
    private int run;

    public static void main(String[] args) {
        ModelTest test = new ModelTest();
        for (int run = 0; run < 400; run++) {
            test.walk(run);
        }
        test.due.end();
    }

    private void walk(int number) {
        run = number;
        lots = new Random(number);
        cage = new IdeaCage();
        model = new Model();
        if (lots.nextInt(8) != 0) {
            writeIdea();
        }
        int calls = 150 + lots.nextInt(150);
        for (int i = 0; i < calls; i++) {
            step();
        }
        lookAtAll();
    }

    /** Mostly within 0 .. most, now and then just outside or far off. */
    private int number(int most) {
        int lot = lots.nextInt(24);
        if (lot == 0) return -1;
        if (lot == 1) return most + 1;
        if (lot == 2 && lots.nextInt(4) == 0) return lots.nextInt();
        return lots.nextInt(most + 1);
    }

    private void writeIdea() {
        is("wipe()", cage.wipe(), model.wipe());
        StringBuilder text = new StringBuilder("I");
        text.append((char) ('0' + (lots.nextInt(3) == 0 ? lots.nextInt(10) : 5 + lots.nextInt(5))));
        int parts = lots.nextInt(4) == 0 ? lots.nextInt(8) : 4 + lots.nextInt(4);
        int highest = lots.nextInt(3) == 0 ? 16 : 12;
        for (int part = 0; part < parts; part++) {
            char cell = (char) ('a' + lots.nextInt(highest));
            if (text.indexOf("P" + cell) < 0) {
                text.append('P').append(cell).append((char) ('0' + lots.nextInt(4)));
            }
        }
        if (lots.nextInt(12) == 0) {
            text.setCharAt(lots.nextInt(text.length()), "IPaq049"
                    .charAt(lots.nextInt(7)));
        }
        for (int i = 0; i < text.length(); i++) {
            int letter = text.charAt(i);
            is("write(" + letter + ")", cage.write(letter), model.write(letter));
            if (lots.nextInt(6) == 0) {
                is("fault()", cage.fault(), model.fault());
            }
        }
        is("fault()", cage.fault(), model.fault());
        is("idea()", cage.idea(), model.idea());
    }

    private void step() {
        int lot = lots.nextInt(100);
        if (lot < 26) put(number(3));
        else if (lot < 38) strike(number(3));
        else if (lot < 41) is("rain()", cage.rain(), model.rain());
        else if (lot < 45) is("undo()", cage.undo(), model.undo());
        else if (lot < 52) lookAtOne();
        else if (lot < 58) soon();
        else if (lot < 66) judge();
        else if (lot < 68) share();
        else if (lot < 76) tried();
        else if (lot < 82) rests();
        else if (lot < 88) wet();
        else if (lot < 94) terms();
        else if (lot < 97) slots();
        else if (lot < 99) text();
        else if (lots.nextInt(3) == 0) writeIdea();
    }

    private void put(int column) {
        is("put(" + column + ")", cage.put(column), model.put(column));
    }

    private void strike(int column) {
        is("strike(" + column + ")", cage.strike(column), model.strike(column));
    }

    private void lookAtOne() {
        int what = number(8);
        is("about(" + what + ")", cage.about(what), model.about(what));
        int part = number(6);
        int which = number(3);
        is("part(" + part + ", " + which + ")", cage.part(part, which), model.part(part, which));
        int column = number(3);
        is("column(" + column + ")", cage.column(column), model.column(column));
        is("loses(" + column + ")", cage.loses(column), model.loses(column));
        is("down(" + column + ")", cage.down(column), model.down(column));
        int cell = number(15);
        is("at(" + cell + ")", cage.at(cell), model.at(cell));
    }

    private void lookAtAll() {
        for (int what = -1; what < 10; what++) {
            is("about(" + what + ")", cage.about(what), model.about(what));
        }
        for (int part = -1; part < 8; part++) {
            for (int what = -1; what < 5; what++) {
                is("part(" + part + ", " + what + ")", cage.part(part, what), model.part(part, what));
            }
        }
        for (int column = -1; column < 5; column++) {
            is("column(" + column + ")", cage.column(column), model.column(column));
        }
    }

    private void soon() {
        int all = (1 << model.about(0)) - 1;
        int parts = lots.nextInt(20) == 0 ? number(127) : lots.nextInt(all + 1);
        if (lots.nextBoolean()) {
            parts &= lots.nextInt(all + 1);
        }
        int what = number(1);
        is("soon(" + parts + ", " + what + ")", cage.soon(parts, what), model.soon(parts, what));
    }

    private void judge() {
        int n = number(3) + 1;
        int doings = Math.max(1, Math.min(4, n));
        long row = 0;
        for (int i = 0; i < doings; i++) {
            row = row * 1000 + doing();
        }
        if (lots.nextInt(20) == 0) row = lots.nextLong();
        if (lots.nextInt(20) == 0) row *= 10;
        is("judge(" + n + ", " + row + ")", cage.judge(n, row), model.judge(n, row));
    }

    private int doing() {
        if (lots.nextInt(16) == 0) return lots.nextInt(1000);
        switch (lots.nextInt(5)) {
            case 0:
                return 100 + lots.nextInt(4);
            case 1:
                return 200 + lots.nextInt(4);
            case 2:
                return 300;
            case 3:
                return 400 + lots.nextInt(7);
            default:
                return 500 + 10 * lots.nextInt(4) + lots.nextInt(3);
        }
    }

    private void share() {
        // All orders of seven parts take the model long, so both sides are asked at once.
        int part = number(6);
        is("share(" + part + ", true)", cage.share(part, true), model.share(part, true));
        is("share(" + part + ", false)", cage.share(part, false), model.share(part, false));
    }

    private void tried() {
        if (lots.nextInt(3) != 0) {
            int about = number(31);
            int stood = number(1);
            is("attempt(" + about + ", " + stood + ")", cage.attempt(about, stood),
                    model.attempt(about, stood));
        }
        int what = number(1);
        is("kinds(" + what + ")", cage.kinds(what), model.kinds(what));
        if (lots.nextInt(4) == 0) {
            is("unattempt()", cage.unattempt(), model.unattempt());
        }
    }

    private void rests() {
        int one = number(3);
        int other = number(3);
        int what = number(1);
        is("rests(" + one + ", " + other + ", " + what + ")", cage.rests(one, other, what),
                model.rests(one, other, what));
    }

    private void wet() {
        int m = number(7);
        int x = number(10);
        is("wet(" + m + ", " + x + ", true)", cage.wet(m, x, true), model.wet(m, x, true));
        is("wet(" + m + ", " + x + ", false)", cage.wet(m, x, false), model.wet(m, x, false));
    }

    private void terms() {
        if (lots.nextInt(3) == 0) {
            long v = lots.nextLong();
            is("seed(" + v + ")", cage.seed(v), model.seed(v));
        }
        int m = number(30);
        is("terms(" + m + ")", cage.terms(m), model.terms(m));
    }

    private void slots() {
        int slot = number(1);
        if (lots.nextBoolean()) is("keep(" + slot + ")", cage.keep(slot), model.keep(slot));
        else is("again(" + slot + ")", cage.again(slot), model.again(slot));
    }

    private void text() {
        int letter = number(255);
        is("write(" + letter + ")", cage.write(letter), model.write(letter));
        is("fault()", cage.fault(), model.fault());
        if (lots.nextInt(4) == 0) is("idea()", cage.idea(), model.idea());
    }

    private void is(String call, long got, long want) {
        due.is("run " + run + ": " + call, got, want);
    }
}
