import java.util.function.IntSupplier;

/**
 * Every call with numbers at and beyond each edge, on crowds from nobody to as many
 * as there can be, against the plain crowd; what is refused changes nothing.
 */
public final class GridTest {
    private static final int TOP = 1073741824;
    private static final int MOST_INT = 2147483647, LEAST_INT = -2147483648;
    private static final int[] MEMBERS = {LEAST_INT, -1, 0, 1, 2, 3, 4, 8, 9, 10, MOST_INT};
    private static final int[] KINDS = {LEAST_INT, -1, 0, 1, 2, 3, MOST_INT};
    private static final int[] VALUES = {LEAST_INT, -TOP - 1, -TOP, -1, 0, 1, TOP, TOP + 1, MOST_INT};
    private static final int[] TIMES = {LEAST_INT, -1, 0, 1, 2, 19, 20, 21, 59, 60, 61, MOST_INT};
    private static final int[] PLACES = {LEAST_INT, -1, 0, 1, 2, 3, 4, 5, 6, 7, 8, MOST_INT};
    private static final int CROWDS = 9;
    private static final int MOST_CALLS = 350;

    private static int wrong = 0;
    private static long asked = 0;

    private final int crowd;
    private WhisperCrowd x;
    private PlainCrowd plain;
    private int calls;

    private GridTest(int crowd) {
        this.crowd = crowd;
        start();
    }

    // ---- crowds to begin with

    private void start() {
        x = new WhisperCrowd();
        plain = new PlainCrowd();
        calls = 0;
        switch (crowd) {
            case 0 -> { }
            case 1 -> build(1, 0);
            case 2 -> build(2, 0);
            case 3 -> build(2, 1);
            case 4 -> oneFallen();
            case 5 -> oneLeft();
            case 6 -> build(9, 3);
            case 7 -> build(10, 9);
            default -> busy();
        }
    }

    private void come(int value) {
        x.come(value);
        plain.come(value);
        calls++;
    }

    private void line(int a, int b) {
        x.line(a, b);
        plain.line(a, b);
        calls++;
    }

    /** So many, each joined with so many before it. */
    private void build(int members, int before) {
        for (int m = 0; m < members; m++) {
            come(m % 2 == 0 ? 8 * m : -3 * m);
            for (int other = Math.max(0, m - before); other < m; other++) line(m, other);
        }
    }

    private void oneFallen() {
        build(4, 1);
        x.fall(1);
        plain.fall(1);
    }

    private void oneLeft() {
        build(4, 1);
        x.leave(2, 3);
        plain.leave(2, 3);
    }

    private void busy() {
        build(6, 2);
        for (int kind = 0; kind < 3; kind++) {
            x.draw(kind, 5);
            plain.draw(kind, 5);
        }
        for (int i = 0; i < 9; i++) {
            x.send(i % 5, i % 5 + 1);
            plain.send(i % 5, i % 5 + 1);
        }
        x.lose(2);
        plain.lose(2);
        x.fall(4);
        plain.fall(4);
        x.send(0, 2);
        plain.send(0, 2);
        x.fewest(0);
        plain.fewest(0);
        calls += 20;
    }

    // ---- how a call is looked at

    private static void same(String call, long got, long want) {
        asked++;
        if (got == want) return;
        wrong++;
        System.out.println(call + " answered " + got + ", due is " + want);
    }

    private String text(String name, int... numbers) {
        StringBuilder text = new StringBuilder("crowd " + crowd + ": " + name);
        for (int number : numbers) text.append(' ').append(number);
        return text.toString();
    }

    /** The same answer, the same crowd behind it; and back to where the call began. */
    private void change(String call, IntSupplier ofX, IntSupplier ofPlain) {
        long before = x.digest();
        int open = x.count(5);
        int answer = ofX.getAsInt();
        same(call, answer, ofPlain.getAsInt());
        same("digest() behind " + call, x.digest(), plain.digest());
        same("count(4) behind " + call, x.count(4), plain.count(4));
        if (answer < 0) {
            same("digest() behind the refused " + call, x.digest(), before);
            same("count(5) behind the refused " + call, x.count(5), open);
            calls += 7;
        } else {
            same("undo() of " + call, x.undo(), plain.undo());
            same("digest() behind undo() of " + call, x.digest(), before);
            start();
        }
        if (calls > MOST_CALLS) start();
    }

    // ---- the calls

    private void changesByOne() {
        for (int v : VALUES) {
            change(text("come", v), () -> x.come(v), () -> plain.come(v));
            change(text("seed", v), () -> x.seed(v), () -> plain.seed(v));
        }
        for (int m : MEMBERS) change(text("fall", m), () -> x.fall(m), () -> plain.fall(m));
        for (int letter : PLACES) {
            change(text("bring", letter), () -> x.bring(letter), () -> plain.bring(letter));
            change(text("lose", letter), () -> x.lose(letter), () -> plain.lose(letter));
        }
        change(text("fresh"), () -> x.fresh(), () -> plain.fresh());
    }

    private void changesByTwo() {
        for (int a : MEMBERS) {
            for (int b : MEMBERS) {
                change(text("line", a, b), () -> x.line(a, b), () -> plain.line(a, b));
                change(text("cut", a, b), () -> x.cut(a, b), () -> plain.cut(a, b));
                change(text("leave", a, b), () -> x.leave(a, b), () -> plain.leave(a, b));
                change(text("send", a, b), () -> x.send(a, b), () -> plain.send(a, b));
                for (int k : KINDS) change(text("talk", k, a, b), () -> x.talk(k, a, b), () -> plain.talk(k, a, b));
            }
            for (int v : VALUES) {
                change(text("set", a, v), () -> x.set(a, v), () -> plain.set(a, v));
                change(text("back", a, v), () -> x.back(a, v), () -> plain.back(a, v));
            }
        }
        for (int k : KINDS) {
            for (int n : TIMES) {
                change(text("draw", k, n), () -> x.draw(k, n), () -> plain.draw(k, n));
                change(text("round", k, n), () -> x.round(k, n), () -> plain.round(k, n));
            }
        }
    }

    private void asksByTwo() {
        for (int m : MEMBERS) {
            start();
            for (int i : PLACES) {
                same(text("about", m, i), x.about(m, i), plain.about(m, i));
                same(text("ticket", m, i), x.ticket(m, i), plain.ticket(m, i));
                same(text("letter", m, i), x.letter(m, i), plain.letter(m, i));
                same(text("letter", i, m), x.letter(i, m), plain.letter(i, m));
            }
            for (int other : MEMBERS) {
                same(text("book", m, other), x.book(m, other, false), plain.book(m, other, false));
                same(text("book, weight", m, other), x.book(m, other, true), plain.book(m, other, true));
            }
            same(text("mass", m), x.mass(m, false), plain.mass(m, false));
            same(text("mass, weight", m), x.mass(m, true), plain.mass(m, true));
            same(text("guess", m), x.guess(m), plain.guess(m));
            same(text("many", m), x.many(m), plain.many(m));
        }
    }

    private void asksByOne() {
        start();
        for (int what : PLACES) same(text("count", what), x.count(what), plain.count(what));
        for (int limit : KINDS) {
            if (limit == 3 && crowd >= 6 && crowd != 8) continue;
            same(text("fewest", limit), x.fewest(limit), plain.fewest(limit));
            for (int i : PLACES) same(text("plan", i), x.plan(i), plain.plan(i));
        }
        same(text("far"), x.far(), plain.far());
        same(text("unsure"), x.unsure(), plain.unsure());
        same(text("owed"), x.owed(false), plain.owed(false));
        same(text("owed, weight"), x.owed(true), plain.owed(true));
        same(text("all"), x.all(false), plain.all(false));
        same(text("all, weight"), x.all(true), plain.all(true));
        same(text("undo"), x.undo(), plain.undo());
        same(text("digest"), x.digest(), plain.digest());
    }

    public static void main(String[] args) {
        for (int crowd = 0; crowd < CROWDS; crowd++) {
            GridTest grid = new GridTest(crowd);
            grid.changesByOne();
            grid.changesByTwo();
            grid.asksByTwo();
            grid.asksByOne();
        }
        System.out.println(wrong == 0 ? asked + " answers at the edges are the plain crowd's" : wrong + " went wrong");
        if (wrong != 0) System.exit(1);
    }
}
