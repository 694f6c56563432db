import java.util.function.Supplier;
import java.util.function.ToLongFunction;

/** What the tests of edges share: crowds to begin with, and how a call at an edge is looked at. */
class Edges {
    static final int BAD = -1, NO = -2, FULL = -3, NONE = -4;
    static final int TOP = 1073741824;
    static final int MOST_INT = 2147483647, LEAST_INT = -2147483648;
    static final long U = 1048576L;

    private static int wrong = 0;
    private static String sentence = "";

    interface OfOne {
        long of(WhisperCrowd x, int number);
    }

    // ---- how a call is looked at

    /** The test of one sentence of the document. */
    static void on(String words, Runnable test) {
        sentence = words;
        test.run();
    }

    static void end(String name) {
        System.out.println(wrong == 0 ? "all edges of the " + name + " hold" : wrong + " answers are not as due");
        if (wrong != 0) System.exit(1);
    }

    static void due(String call, long got, long want) {
        if (got == want) return;
        wrong++;
        System.out.println(sentence + ": " + call + " answered " + got + ", due is " + want);
    }

    static void holds(String what, boolean so) {
        due("whether " + what, so ? 1 : 0, 1);
    }

    /**
     * The call is refused with that answer, and nothing is another way behind it: what
     * is told, what can be taken back, and what only later calls bring to light.
     */
    static void refused(Supplier<WhisperCrowd> made, String call, ToLongFunction<WhisperCrowd> calling, long want) {
        WhisperCrowd x = made.get();
        due(call, calling.applyAsLong(x), want);
        sameTold("behind the refused " + call, x, made.get());
        sameTakenBack("behind the refused " + call, x, made.get());
        x = made.get();
        calling.applyAsLong(x);
        sameLater("later than the refused " + call, x, made.get());
    }

    /** The call is taken with that answer, can be taken back, and then all is as before. */
    static void taken(Supplier<WhisperCrowd> made, String call, ToLongFunction<WhisperCrowd> calling, long want) {
        WhisperCrowd x = made.get();
        int open = Math.min(x.count(5), 19);
        due(call, calling.applyAsLong(x), want);
        due("count(5) behind " + call, x.count(5), open + 1);
        due("undo() of " + call, x.undo(), open);
        due("digest() behind undo() of " + call, x.digest(), made.get().digest());
        sameLater("later than undo() of " + call, x, made.get());
    }

    /** Each number that no MEMBER has, the first one among them, is refused so. */
    static void strangersRefused(Supplier<WhisperCrowd> made, String call, OfOne calling, long want) {
        for (int stranger : strangers(made)) {
            refused(made, call + " with m = " + stranger, x -> calling.of(x, stranger), want);
        }
    }

    static int[] strangers(Supplier<WhisperCrowd> made) {
        return new int[] {LEAST_INT, -1, made.get().count(0), 10, MOST_INT};
    }

    private static void sameTold(String when, WhisperCrowd x, WhisperCrowd y) {
        due("digest() " + when, x.digest(), y.digest());
        for (int what = 0; what < 7; what++) due("count(" + what + ") " + when, x.count(what), y.count(what));
        for (int i = 0; i < 4; i++) due("plan(" + i + ") " + when, x.plan(i), y.plan(i));
        due("far() " + when, x.far(), y.far());
        due("unsure() " + when, x.unsure(), y.unsure());
    }

    private static void sameTakenBack(String when, WhisperCrowd x, WhisperCrowd y) {
        for (int i = y.count(5); i >= 0; i--) {
            due("undo() " + when, x.undo(), y.undo());
            due("digest() and undo() " + when, x.digest(), y.digest());
        }
    }

    /** Whom TICKETS are of, and by whom what is owed, is told by what comes later alone. */
    private static void sameLater(String when, WhisperCrowd x, WhisperCrowd y) {
        for (int m = 0; m < y.count(0); m++) {
            due("fall(" + m + ") " + when, x.fall(m), y.fall(m));
            due("digest() and falls " + when, x.digest(), y.digest());
            due("back(" + m + ", 1) " + when, x.back(m, 1), y.back(m, 1));
        }
        for (int kind = 0; kind < 3; kind++) {
            due("round(" + kind + ", 3) " + when, x.round(kind, 3), y.round(kind, 3));
            due("digest() and rounds " + when, x.digest(), y.digest());
        }
        due("fewest(0) " + when, x.fewest(0), y.fewest(0));
    }

    // ---- crowds to begin with

    static WhisperCrowd crowd(int... values) {
        WhisperCrowd x = new WhisperCrowd();
        for (int value : values) x.come(value);
        return x;
    }

    /** LINES 0-1, 1-2, and so on. */
    static WhisperCrowd chain(int... values) {
        WhisperCrowd x = crowd(values);
        for (int m = 1; m < values.length; m++) x.line(m - 1, m);
        return x;
    }

    /** A LINE between each two. */
    static WhisperCrowd web(int... values) {
        WhisperCrowd x = crowd(values);
        for (int m = 1; m < values.length; m++) {
            for (int other = 0; other < m; other++) x.line(m, other);
        }
        return x;
    }

    /** As many MEMBERS and LINES as there can be. */
    static WhisperCrowd full() {
        return web(0, 1, -2, 3, -4, 5, -6, 7, -8, 9);
    }

    /** A chain of 0, 1, 2, of whom 1 has FALLEN. */
    static WhisperCrowd fallen() {
        WhisperCrowd x = chain(3, -5, 7);
        x.talk(0, 0, 1);
        x.fall(1);
        return x;
    }

    /** A chain of 0, 1, 2, of whom 1 has LEFT to 2. */
    static WhisperCrowd left() {
        WhisperCrowd x = chain(3, -5, 7);
        x.talk(0, 0, 1);
        x.leave(1, 2);
        return x;
    }

    /** Two, joined, with as many LETTERS UNDER WAY as there can be: the even ones from 0 to 1. */
    static WhisperCrowd eightLetters() {
        WhisperCrowd x = chain(1000, -3, 5);
        for (int letter = 0; letter < 8; letter++) x.send(letter % 2, 1 - letter % 2);
        return x;
    }

    /** Something of all: LETTERS, what is owed, BOOKS, TALKS, a plan, one AWAY. */
    static WhisperCrowd busy() {
        WhisperCrowd x = web(8, 16, -32, 5, 100);
        x.cut(0, 4);
        x.round(1, 1);
        x.draw(0, 7);
        x.draw(2, 3);
        x.send(0, 1);
        x.lose(0);
        x.send(1, 2);
        x.send(2, 0);
        x.fewest(0);
        x.fall(4);
        return x;
    }

    /** One of a VALUE, worn down by lost LETTERS till its SUM is VALUE and its WEIGHT 1. */
    static void wearDown(WhisperCrowd x, int member, int other) {
        for (int i = 0; i < 20; i++) {
            int letter = x.send(member, other);
            x.lose(letter);
        }
    }

    // ---- THE SEED

    static int next(int seed) {
        return (int) ((seed * 1103515245L + 12345L) & 2147483647L);
    }

    /** The SEED of which the next that is drawn is that number. */
    static int seedBefore(int drawn) {
        long turned = 1103515245L;
        for (int i = 0; i < 6; i++) turned = turned * (2 - 1103515245L * turned);
        return (int) ((drawn - 12345L) * turned & 2147483647L);
    }

    static long bits(double x) {
        return Double.doubleToLongBits(x);
    }
}
