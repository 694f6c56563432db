import java.util.function.LongSupplier;

/** Each promise of the document by itself: what is ordinary, the edges, what is refused. */
public final class PromisesTest {
    private static final int BAD = WhisperCrowd.BAD, NO = WhisperCrowd.NO;
    private static final int FULL = WhisperCrowd.FULL, NONE = WhisperCrowd.NONE;
    private static final int MOST = 1073741824;
    private static final long U = 1048576L;
    private static final int[] NOBODY = {-1, 10, 2147483647, -2147483648};

    private static int wrong = 0;
    private static int promise = 0;

    // ---- helpers

    private static void due(String call, long got, long want) {
        if (got != want) {
            wrong++;
            System.out.println("promise " + promise + ": " + call + " answered " + got + ", due is " + want);
        }
    }

    /** The call is refused with that answer, and nothing is another way behind it. */
    private static void refused(WhisperCrowd x, String call, LongSupplier calling, long want) {
        long before = whole(x);
        due(call, calling.getAsLong(), want);
        due("what stands behind the refused " + call, whole(x), before);
    }

    /** The digest, and what it leaves out. */
    private static long whole(WhisperCrowd x) {
        long h = x.digest();
        for (int what = 0; what < 7; what++) h = 31 * h + x.count(what);
        for (int i = 0; i < 4; i++) h = 31 * h + x.plan(i);
        return h;
    }

    private static WhisperCrowd crowd(int... values) {
        WhisperCrowd x = new WhisperCrowd();
        for (int value : values) x.come(value);
        return x;
    }

    /** A crowd with lines 0-1, 1-2, and so on. */
    private static WhisperCrowd chain(int... values) {
        WhisperCrowd x = crowd(values);
        for (int i = 1; i < values.length; i++) x.line(i - 1, i);
        return x;
    }

    private static int next(int seed) {
        return (int) ((seed * 1103515245L + 12345L) & 2147483647L);
    }

    /** The seed of which the next that is drawn is 0. */
    private static int seedBeforeZero() {
        long turned = 1103515245L;
        for (int i = 0; i < 6; i++) turned = turned * (2 - 1103515245L * turned);
        return (int) (-12345L * turned & 2147483647L);
    }

    private static long bits(double x) {
        return Double.doubleToLongBits(x);
    }

    /** Leaves 1 of the sum of member 0, VALUE 1 or -1, by letters that are lost. */
    private static void wearDown(WhisperCrowd x, int to) {
        for (int i = 0; i < 20; i++) {
            x.send(0, to);
            x.lose(0);
        }
    }

    // ---- promises

    private static void promise1New() {
        WhisperCrowd x = new WhisperCrowd();
        int[] counts = {0, 0, 0, 0, 0, 0, 1};
        for (int what = 0; what < 7; what++) due("count(" + what + ")", x.count(what), counts[what]);
        due("digest()", x.digest(), 506448L);
        due("undo()", x.undo(), NO);
        due("unsure()", x.unsure(), NONE);
        due("far()", x.far(), -1);
        due("all(false)", x.all(false), 0);
        due("plan(0)", x.plan(0), NONE);
        due("about(0, 0)", x.about(0, 0), BAD);
        due("fresh()", x.fresh(), 0);
    }

    private static void promise2Come() {
        WhisperCrowd x = new WhisperCrowd();
        refused(x, "come(2^30 + 1)", () -> x.come(MOST + 1), BAD);
        refused(x, "come(-2^30 - 1)", () -> x.come(-MOST - 1), BAD);
        due("come(2^30)", x.come(MOST), 0);
        due("come(-2^30)", x.come(-MOST), 1);
        due("mass(0, false)", x.mass(0, false), 1125899906842624L);
        due("mass(1, false)", x.mass(1, false), -1125899906842624L);
        due("mass(1, true)", x.mass(1, true), U);
        due("count(6)", x.count(6), next(next(1)));
        for (int i = 2; i < 10; i++) due("come", x.come(i), i);
        refused(x, "come(0) by an eleventh", () -> x.come(0), FULL);
        refused(x, "come(2^30 + 1) by an eleventh", () -> x.come(MOST + 1), BAD);
        due("about(2, 1)", x.about(2, 1), 2);
        due("about(2, 2)", x.about(2, 2), 2);
        due("about(2, 3)", x.about(2, 3), 2);
        due("about(2, 4)", x.about(2, 4), 4);
        due("about(2, 5)", x.about(2, 5), 1);
        due("ticket(2, 0)", x.ticket(2, 0), next(next(next(1))));
        x.fall(9);
        refused(x, "come(0), one being away", () -> x.come(0), FULL);
    }

    private static void promise3Line() {
        WhisperCrowd x = crowd(1, 2, 3);
        due("line(1, 0)", x.line(1, 0), 1);
        refused(x, "line(0, 1)", () -> x.line(0, 1), NO);
        refused(x, "line(1, 1)", () -> x.line(1, 1), BAD);
        refused(x, "line(0, 3)", () -> x.line(0, 3), BAD);
        for (int m : NOBODY) {
            refused(x, "line(0, " + m + ")", () -> x.line(0, m), BAD);
            refused(x, "line(" + m + ", 0)", () -> x.line(m, 0), BAD);
        }
        x.fall(2);
        due("line(2, 1), 2 being away", x.line(2, 1), 2);
        due("count(2)", x.count(2), 2);
        WhisperCrowd ten = crowd(0, 0, 0, 0, 0, 0, 0, 0, 0, 0);
        int lines = 0;
        for (int a = 0; a < 10; a++) {
            for (int b = 0; b < a; b++) due("line", ten.line(a, b), ++lines);
        }
        due("count(2)", ten.count(2), 45);
        due("round(0, 1)", ten.round(0, 1), 1);
        due("count(4): one talk over each", ten.count(4), 45);
    }

    private static void promise4Cut() {
        WhisperCrowd x = chain(1, 2, 3);
        refused(x, "cut(0, 2)", () -> x.cut(0, 2), NO);
        refused(x, "cut(1, 1)", () -> x.cut(1, 1), BAD);
        refused(x, "cut(0, 3)", () -> x.cut(0, 3), BAD);
        for (int m : NOBODY) {
            refused(x, "cut(" + m + ", 0)", () -> x.cut(m, 0), BAD);
            refused(x, "cut(0, " + m + ")", () -> x.cut(0, m), BAD);
        }
        x.send(1, 0);
        refused(x, "cut(0, 1) with a letter over it", () -> x.cut(0, 1), NO);
        refused(x, "cut(0, 0) with a letter to it", () -> x.cut(0, 0), BAD);
        due("cut(2, 1)", x.cut(2, 1), 1);
        refused(x, "cut(1, 2)", () -> x.cut(1, 2), NO);
        due("talk(0, 1, 2)", x.talk(0, 1, 2), NO);
        x.lose(0);
        x.fall(1);
        refused(x, "cut(1, 1), 1 being away", () -> x.cut(1, 1), BAD);
        due("cut(0, 1), 1 being away", x.cut(0, 1), 0);
        due("undo()", x.undo(), 9);
        due("count(2)", x.count(2), 1);
    }

    private static void promise5Set() {
        WhisperCrowd x = chain(5, 6, 7);
        x.round(1, 2);
        x.talk(0, 0, 1);
        long sum = x.mass(1, false);
        due("set(1, 2^30)", x.set(1, MOST), 1);
        due("set(1, -2^30)", x.set(1, -MOST), 1);
        due("mass(1, false)", x.mass(1, false), sum + (-MOST - 6) * U);
        due("mass(1, true)", x.mass(1, true), U);
        due("about(1, 1)", x.about(1, 1), -MOST);
        due("about(1, 2)", x.about(1, 2), -MOST);
        due("about(1, 3)", x.about(1, 3), -MOST);
        due("about(1, 4)", x.about(1, 4), 2);
        due("about(0, 4)", x.about(0, 4), 5);
        due("about(2, 4)", x.about(2, 4), 5);
        due("about(0, 2)", x.about(0, 2), 7);
        due("ticket(1, 0)", x.ticket(1, 0), next(next(1)));
        due("set(0, 5), as it is", x.set(0, 5), 1);
        due("about(2, 4)", x.about(2, 4), 4);
        refused(x, "set(0, 2^30 + 1)", () -> x.set(0, MOST + 1), BAD);
        refused(x, "set(0, -2^30 - 1)", () -> x.set(0, -MOST - 1), BAD);
        refused(x, "set(3, 0)", () -> x.set(3, 0), BAD);
        for (int m : NOBODY) refused(x, "set(" + m + ", 0)", () -> x.set(m, 0), BAD);
        x.fall(2);
        refused(x, "set(2, 0), 2 being away", () -> x.set(2, 0), BAD);
    }

    private static void promise6Back() {
        WhisperCrowd x = chain(5, 6, 7);
        x.round(1, 2);
        x.round(2, 2);
        refused(x, "back(1, 4), 1 being here", () -> x.back(1, 4), BAD);
        refused(x, "back(3, 4)", () -> x.back(3, 4), BAD);
        x.talk(0, 0, 1);
        x.fall(1);
        for (int m : NOBODY) refused(x, "back(" + m + ", 0)", () -> x.back(m, 0), BAD);
        refused(x, "back(1, 2^30 + 1)", () -> x.back(1, MOST + 1), BAD);
        refused(x, "back(1, -2^30 - 1)", () -> x.back(1, -MOST - 1), BAD);
        int old = next(next(1));
        int seed = x.count(6);
        due("about(0, 4)", x.about(0, 4), 7);
        due("back(1, -9)", x.back(1, -9), 1);
        due("mass(1, false)", x.mass(1, false), -9 * U);
        due("mass(1, true)", x.mass(1, true), U);
        due("about(1, 2)", x.about(1, 2), -9);
        due("about(1, 3)", x.about(1, 3), -9);
        due("about(1, 4)", x.about(1, 4), 2);
        due("about(0, 4)", x.about(0, 4), 5);
        due("about(1, 5)", x.about(1, 5), 1);
        due("ticket(1, 0)", x.ticket(1, 0), next(seed));
        due("about(0, 5)", x.about(0, 5), 3);
        boolean knownStill = x.ticket(0, 0) == old || x.ticket(0, 1) == old || x.ticket(0, 2) == old;
        due("whether 0 knows the old ticket of 1", knownStill ? 1 : 0, 1);
        due("count(2): lines stay", x.count(2), 2);
        due("count(0)", x.count(0), 3);
    }

    private static void promise7Fall() {
        WhisperCrowd x = chain(8, 0, 4);
        x.talk(0, 0, 1);
        x.talk(0, 1, 2);
        x.send(0, 1);
        x.send(1, 2);
        x.send(2, 1);
        x.bring(1);
        x.send(1, 2);
        x.lose(1);
        due("owed(true)", x.owed(true), U / 4);
        due("fall(1)", x.fall(1), 2);
        due("mass(0, false)", x.mass(0, false), 8 * U);
        due("mass(0, true)", x.mass(0, true), U);
        due("mass(2, false)", x.mass(2, false), 4 * U);
        due("mass(2, true)", x.mass(2, true), U);
        due("mass(1, false)", x.mass(1, false), 0);
        due("owed(true)", x.owed(true), 0);
        due("count(3)", x.count(3), 0);
        for (int other = 0; other < 3; other++) {
            due("book(1, " + other + ")", x.book(1, other, false), 0);
            due("book(" + other + ", 1)", x.book(other, 1, true), 0);
        }
        due("about(1, 0)", x.about(1, 0), 0);
        refused(x, "fall(1) again", () -> x.fall(1), BAD);
        refused(x, "fall(3)", () -> x.fall(3), BAD);
        for (int m : NOBODY) refused(x, "fall(" + m + ")", () -> x.fall(m), BAD);
        due("undo()", x.undo(), 13);
        due("owed(true)", x.owed(true), U / 4);
        due("fall(0), a letter from it under way", x.fall(0), 1);
        due("owed(true), the lost one not being of 0", x.owed(true), U / 4);
    }

    private static void promise8Leave() {
        WhisperCrowd x = chain(8, 0, 4);
        x.talk(0, 0, 1);
        x.talk(0, 1, 2);
        refused(x, "leave(0, 2)", () -> x.leave(0, 2), NO);
        refused(x, "leave(1, 1)", () -> x.leave(1, 1), BAD);
        refused(x, "leave(3, 1)", () -> x.leave(3, 1), BAD);
        refused(x, "leave(1, 3)", () -> x.leave(1, 3), BAD);
        x.send(2, 1);
        refused(x, "leave(1, 0), a letter being under way to it", () -> x.leave(1, 0), NO);
        refused(x, "leave(2, 1), a letter being under way from it", () -> x.leave(2, 1), NO);
        due("leave(0, 1), the letter being of others", x.leave(0, 1), 1);
        due("mass(1, false)", x.mass(1, false), 4 * U + 4 * U - 8 * U);
        due("mass(1, true)", x.mass(1, true), U);
        refused(x, "leave(0, 1), 0 being away", () -> x.leave(0, 1), BAD);
        refused(x, "leave(1, 0), 0 being away", () -> x.leave(1, 0), BAD);
        x.undo();
        x.bring(0);
        x.set(1, 3);
        due("leave(1, 2)", x.leave(1, 2), 1);
        due("mass(2, false)", x.mass(2, false), 8 * U);
        due("mass(2, true)", x.mass(2, true), U);
        due("book(0, 2, false)", x.book(0, 2, false), 4 * U);
        due("book(2, 0, false)", x.book(2, 0, false), -4 * U);
        due("book(0, 1, false)", x.book(0, 1, false), 0);
        due("book(2, 1, false)", x.book(2, 1, false), 0);
        due("book(2, 2, false)", x.book(2, 2, false), 0);
        x.fall(2);
        due("mass(0, false) when 2 has fallen too", x.mass(0, false), 8 * U);
    }

    private static void promise8LeaveOwing() {
        WhisperCrowd x = chain(8, 0, 4);
        x.send(1, 0);
        x.lose(0);
        x.send(1, 2);
        x.lose(0);
        x.leave(1, 2);
        due("owed(true)", x.owed(true), U / 2 + U / 4);
        x.back(1, 0);
        x.fall(1);
        due("owed(true): it is not owed by 1 any more", x.owed(true), U / 2 + U / 4);
        x.fall(0);
        due("owed(true): what was sent to 0 is gone", x.owed(true), U / 4);
        x.fall(2);
        due("owed(true): what 2 owes itself is gone", x.owed(true), 0);
    }

    private static void promise8LeaveOwed() {
        WhisperCrowd x = chain(8, 0, 4);
        x.send(0, 1);
        x.lose(0);
        x.send(2, 1);
        x.lose(0);
        x.leave(1, 2);
        due("book(2, 2, false)", x.book(2, 2, false), 0);
        due("book(0, 2, false)", x.book(0, 2, false), 4 * U);
        due("owed(true)", x.owed(true), U);
        x.back(1, 0);
        x.fall(1);
        due("owed(true): it was sent to 2", x.owed(true), U);
        x.fall(2);
        due("owed(true)", x.owed(true), 0);
        due("mass(0, false): 0 has it back", x.mass(0, false), 8 * U);
    }

    private static void promise9Talk() {
        WhisperCrowd x = chain(1, 0);
        wearDown(x, 1);
        long weights = x.mass(0, true) + x.mass(1, true);
        due("talk(0, 1, 0)", x.talk(0, 1, 0), 1);
        due("mass(1, false): the rest", x.mass(1, false), 1);
        due("mass(0, false): the half", x.mass(0, false), 0);
        due("mass(1, true)", x.mass(1, true), weights - weights / 2);
        due("book(1, 0, true)", x.book(1, 0, true), weights / 2 - 1);
        due("book(0, 1, true)", x.book(0, 1, true), weights - weights / 2 - 1);
        WhisperCrowd y = chain(-1, 0);
        wearDown(y, 1);
        y.send(0, 1);
        due("letter(0, 2): the half of -1", y.letter(0, 2), -1);
        y.bring(0);
        y.talk(0, 0, 1);
        due("mass(0, false): the rest of -1", y.mass(0, false), 0);
        due("mass(1, false): the half of -1", y.mass(1, false), -1);
        due("count(4)", y.count(4), 1);
    }

    private static void knows(WhisperCrowd x, int m, int greatest, int least, int heard, int tickets) {
        int[] about = {1, x.about(m, 1), greatest, least, heard, tickets};
        for (int what = 0; what < 6; what++) due("about(" + m + ", " + what + ")", x.about(m, what), about[what]);
    }

    private static void promise9Great() {
        WhisperCrowd x = chain(4, 9, 1);
        due("talk(1, 1, 0)", x.talk(1, 1, 0), 1);
        knows(x, 0, 9, 4, 3, 1);
        knows(x, 1, 9, 4, 3, 1);
        due("talk(1, 1, 2)", x.talk(1, 1, 2), 1);
        knows(x, 0, 9, 4, 3, 1);
        knows(x, 1, 9, 1, 7, 1);
        knows(x, 2, 9, 1, 7, 1);
        due("talk(1, 0, 1)", x.talk(1, 0, 1), 1);
        knows(x, 0, 9, 1, 7, 1);
        due("mass(1, false)", x.mass(1, false), 9 * U);
        due("ticket(1, 0)", x.ticket(1, 0), next(next(1)));
        due("count(4)", x.count(4), 3);
        knows(chain(4, 9), 0, 4, 4, 1, 1);
        WhisperCrowd y = chain(4, 9);
        y.talk(0, 0, 1);
        knows(y, 0, 4, 4, 1, 1);
        knows(y, 1, 9, 9, 2, 1);
        y.talk(2, 0, 1);
        knows(y, 0, 4, 4, 1, 2);
        knows(y, 1, 9, 9, 2, 2);
        due("book(0, 1, false)", y.book(0, 1, false), -5 * U / 2);
    }

    /** From either end, with many seeds, that each ticket is each time in another place. */
    private static void promise9Count() {
        for (int seed = 0; seed < 60; seed++) {
            WhisperCrowd x = new WhisperCrowd();
            x.seed(seed * 7919);
            for (int m = 0; m < 6; m++) x.come(0);
            for (int m = 1; m < 6; m++) x.line(m, m - 1);
            long[] sorted = new long[6];
            for (int m = 0; m < 6; m++) sorted[m] = x.ticket(m, 0);
            java.util.Arrays.sort(sorted);
            for (int i = 0; i < 5; i++) {
                int m = seed % 2 == 0 ? i : 4 - i;
                due("talk(2)", x.talk(2, m + seed % 2, m + 1 - seed % 2), 1);
            }
            int last = seed % 2 == 0 ? 5 : 0;
            due("about(last, 5)", x.about(last, 5), 4);
            for (int i = 0; i < 4; i++) due("ticket(last, " + i + ")", x.ticket(last, i), sorted[i]);
            due("ticket(last, 4)", x.ticket(last, 4), NONE);
            due("about(5 - last, 5)", x.about(5 - last, 5), 2);
            x.fresh();
            x.talk(2, 3, 4);
            due("about(3, 5)", x.about(3, 5), 2);
            due("about(4, 5)", x.about(4, 5), 2);
            due("about(2, 5)", x.about(2, 5), 1);
        }
    }

    /** Of two tickets of one member, that which the asking one knows. */
    private static void promise9CountTwoOfOne() {
        for (int asker = 0; asker < 2; asker++) {
            WhisperCrowd x = chain(1, 2);
            int old = x.ticket(0, 0);
            x.talk(2, 0, 1);
            x.fall(0);
            x.back(0, 1);
            int latest = x.ticket(0, 0);
            x.talk(2, asker, 1 - asker);
            int of1 = next(next(1));
            int of0 = asker == 0 ? latest : old;
            for (int m = 0; m < 2; m++) {
                due("about(m, 5)", x.about(m, 5), 2);
                due("ticket(m, 0)", x.ticket(m, 0), Math.min(of0, of1));
                due("ticket(m, 1)", x.ticket(m, 1), Math.max(of0, of1));
            }
        }
    }

    /** Of like tickets those of the lesser members stay: 4's is no more, which 4's new one shows. */
    private static void promise9CountLikeOnes() {
        WhisperCrowd x = new WhisperCrowd();
        for (int m = 0; m < 5; m++) {
            x.seed(7);
            x.come(m);
        }
        for (int m = 3; m >= 0; m--) x.line(m, 4);
        x.talk(2, 4, 3);
        x.talk(2, 4, 2);
        x.talk(2, 4, 1);
        x.talk(2, 4, 0);
        x.fall(4);
        x.seed(seedBeforeZero());
        x.back(4, 0);
        x.talk(2, 0, 4);
        due("ticket(0, 0): 4's was not among the four", x.ticket(0, 0), 0);
        due("ticket(0, 3)", x.ticket(0, 3), next(7));
    }

    private static void promise9Refused() {
        WhisperCrowd x = chain(1, 2, 3);
        refused(x, "talk(3, 0, 1)", () -> x.talk(3, 0, 1), BAD);
        refused(x, "talk(-1, 0, 1)", () -> x.talk(-1, 0, 1), BAD);
        refused(x, "talk(3, 0, 2)", () -> x.talk(3, 0, 2), BAD);
        refused(x, "talk(0, 0, 2)", () -> x.talk(0, 0, 2), NO);
        refused(x, "talk(0, 0, 0)", () -> x.talk(0, 0, 0), NO);
        refused(x, "talk(0, 2, 3)", () -> x.talk(0, 2, 3), BAD);
        for (int m : NOBODY) {
            refused(x, "talk(1, 0, " + m + ")", () -> x.talk(1, 0, m), BAD);
            refused(x, "talk(1, " + m + ", 0)", () -> x.talk(1, m, 0), BAD);
        }
        x.fall(1);
        refused(x, "talk(2, 0, 1), 1 being away", () -> x.talk(2, 0, 1), BAD);
        refused(x, "talk(2, 1, 0), 1 being away", () -> x.talk(2, 1, 0), BAD);
    }

    private static void promise10Send() {
        WhisperCrowd x = chain(3, 5, 7);
        due("send(0, 1)", x.send(0, 1), 0);
        due("send(1, 2)", x.send(1, 2), 1);
        due("send(2, 1)", x.send(2, 1), 2);
        due("mass(0, false)", x.mass(0, false), 3 * U / 2);
        due("mass(0, true)", x.mass(0, true), U / 2);
        due("mass(1, false): nothing is brought", x.mass(1, false), 5 * U / 2);
        due("book(0, 1, false)", x.book(0, 1, false), 3 * U / 2);
        due("book(0, 1, true)", x.book(0, 1, true), U / 2);
        due("book(1, 0, false)", x.book(1, 0, false), 0);
        x.lose(1);
        due("send(1, 0): the least free number", x.send(1, 0), 1);
        for (int i = 3; i < 8; i++) due("send(1, 2)", x.send(1, 2), i);
        refused(x, "send(1, 2), the ninth", () -> x.send(1, 2), FULL);
        refused(x, "send(0, 2), the ninth", () -> x.send(0, 2), NO);
        refused(x, "send(0, 3), the ninth", () -> x.send(0, 3), BAD);
        refused(x, "send(0, 0)", () -> x.send(0, 0), NO);
        for (int m : NOBODY) {
            refused(x, "send(0, " + m + ")", () -> x.send(0, m), BAD);
            refused(x, "send(" + m + ", 0)", () -> x.send(m, 0), BAD);
        }
        due("count(4): a letter is no talk", x.count(4), 0);
        x.fall(2);
        refused(x, "send(1, 2), 2 being away", () -> x.send(1, 2), BAD);
        refused(x, "send(2, 1), 2 being away", () -> x.send(2, 1), BAD);
    }

    private static void promise11Bring() {
        WhisperCrowd x = chain(3, 5);
        x.send(0, 1);
        x.send(0, 1);
        due("bring(1)", x.bring(1), 1);
        due("mass(1, false)", x.mass(1, false), 5 * U + 3 * U / 4);
        due("mass(1, true)", x.mass(1, true), U + U / 4);
        due("book(1, 0, false)", x.book(1, 0, false), -3 * U / 4);
        due("book(1, 0, true)", x.book(1, 0, true), -U / 4);
        due("book(0, 1, true)", x.book(0, 1, true), 3 * U / 4);
        refused(x, "bring(1) again", () -> x.bring(1), BAD);
        for (int letter : new int[] {-1, 7, 8, 2147483647, -2147483648}) {
            refused(x, "bring(" + letter + ")", () -> x.bring(letter), BAD);
        }
        due("bring(0)", x.bring(0), 1);
        due("count(3)", x.count(3), 0);
    }

    private static void promise12Lose() {
        WhisperCrowd x = chain(3, 5);
        x.send(1, 0);
        due("lose(0)", x.lose(0), 1);
        due("owed(false)", x.owed(false), 5 * U / 2);
        due("owed(true)", x.owed(true), U / 2);
        due("mass(0, false)", x.mass(0, false), 3 * U);
        due("book(1, 0, false)", x.book(1, 0, false), 5 * U / 2);
        due("book(0, 1, false)", x.book(0, 1, false), 0);
        due("count(3)", x.count(3), 0);
        for (int letter : new int[] {-1, 0, 8, 2147483647, -2147483648}) {
            refused(x, "lose(" + letter + ")", () -> x.lose(letter), BAD);
        }
    }

    private static void promise13Seed() {
        WhisperCrowd x = crowd();
        refused(x, "seed(-1)", () -> x.seed(-1), BAD);
        refused(x, "seed(-2^31)", () -> x.seed(-2147483648), BAD);
        due("seed(0)", x.seed(0), 1);
        x.come(0);
        due("ticket(0, 0)", x.ticket(0, 0), 12345);
        due("seed(2^31 - 1)", x.seed(2147483647), 1);
        due("count(6)", x.count(6), 2147483647);
        x.come(0);
        due("ticket(1, 0)", x.ticket(1, 0), next(2147483647));
        x.undo();
        due("undo()", x.undo(), 2);
        due("count(6)", x.count(6), 12345);
    }

    /**
     * Against single talks, of which the lines and who asks are reckoned here. The
     * lowest bit of what is drawn turns each time: an even seed and an odd one
     * have two others ask.
     */
    private static void promise14Draw() {
        int[][] four = {{0, 2}, {0, 4}, {1, 2}, {2, 4}};
        int[][] three = {{0, 2}, {0, 4}, {2, 4}};
        for (int way = 0; way < 12; way++) {
            int kind = way % 3;
            WhisperCrowd x = starOfFive();
            WhisperCrowd y = starOfFive();
            int[][] open = way < 6 ? four : three;
            if (way >= 6) x.cut(1, 2);
            if (way >= 6) y.cut(1, 2);
            int seed = 1000 + way;
            x.seed(seed);
            for (int i = 0; i < 60; i++) {
                seed = next(seed);
                int[] line = open[seed % open.length];
                seed = next(seed);
                int lesserAsks = seed % 2 == 0 ? 0 : 1;
                y.talk(kind, line[lesserAsks], line[1 - lesserAsks]);
            }
            y.seed(seed);
            due("draw(kind, 60)", x.draw(kind, 60), 1);
            due("digest()", x.digest(), y.digest());
            due("count(4)", x.count(4), 60);
        }
        promise14DrawOne();
        promise14DrawRefused();
    }

    /** One line, sums of 1 and 0: who asks has the rest. */
    private static void promise14DrawOne() {
        for (int seed = 0; seed < 2; seed++) {
            WhisperCrowd x = chain(1, 0);
            wearDown(x, 1);
            x.seed(seed);
            x.draw(0, 1);
            due("mass(0, false) by seed " + seed, x.mass(0, false), seed == 0 ? 1 : 0);
            due("mass(1, false) by seed " + seed, x.mass(1, false), seed == 0 ? 0 : 1);
        }
    }

    private static void promise14DrawRefused() {
        WhisperCrowd x = starOfFive();
        refused(x, "draw(3, 1)", () -> x.draw(3, 1), BAD);
        refused(x, "draw(-1, 1)", () -> x.draw(-1, 1), BAD);
        refused(x, "draw(0, 0)", () -> x.draw(0, 0), BAD);
        refused(x, "draw(0, 61)", () -> x.draw(0, 61), BAD);
        x.fall(2);
        x.fall(4);
        refused(x, "draw(0, 1), no line being open", () -> x.draw(0, 1), NO);
        refused(x, "draw(0, 61), no line being open", () -> x.draw(0, 61), BAD);
    }

    /** Worn down a bit, that halves leave rests; 3 is away, the lines were made in no order. */
    private static WhisperCrowd starOfFive() {
        WhisperCrowd x = crowd(3, -7, 300, 4, 77);
        x.line(3, 2);
        x.line(2, 4);
        x.line(4, 0);
        x.line(1, 2);
        x.line(2, 0);
        wearDown(x, 2);
        x.fall(3);
        return x;
    }

    private static void promise15Round() {
        int[][] open = {{0, 2}, {0, 4}, {1, 2}, {2, 4}};
        for (int kind = 0; kind < 3; kind++) {
            WhisperCrowd x = starOfFive();
            WhisperCrowd y = starOfFive();
            for (int i = 0; i < 20; i++) {
                for (int[] line : open) y.talk(kind, line[0], line[1]);
            }
            due("round(kind, 20)", x.round(kind, 20), 1);
            due("digest()", x.digest(), y.digest());
            due("count(4)", x.count(4), 80);
            y = starOfFive();
            x.undo();
            for (int[] line : open) y.talk(kind, line[0], line[1]);
            due("round(kind, 1)", x.round(kind, 1), 1);
            due("digest()", x.digest(), y.digest());
        }
        WhisperCrowd x = starOfFive();
        refused(x, "round(3, 1)", () -> x.round(3, 1), BAD);
        refused(x, "round(-1, 1)", () -> x.round(-1, 1), BAD);
        refused(x, "round(0, 0)", () -> x.round(0, 0), BAD);
        refused(x, "round(0, 21)", () -> x.round(0, 21), BAD);
        x.fall(2);
        x.fall(4);
        refused(x, "round(0, 1), no line being open", () -> x.round(0, 1), NO);
        refused(x, "round(0, 0), no line being open", () -> x.round(0, 0), BAD);
    }

    private static void promise16Fresh() {
        WhisperCrowd x = chain(4, 9, 1, 6);
        x.round(1, 3);
        x.round(2, 3);
        x.talk(0, 0, 1);
        x.fall(1);
        int seed = x.count(6);
        long sum = x.mass(0, false);
        due("fresh()", x.fresh(), 3);
        for (int m : new int[] {0, 2, 3}) {
            seed = next(seed);
            due("about(m, 2)", x.about(m, 2), x.about(m, 1));
            due("about(m, 3)", x.about(m, 3), x.about(m, 1));
            due("about(m, 4)", x.about(m, 4), 1 << m);
            due("about(m, 5)", x.about(m, 5), 1);
            due("ticket(m, 0)", x.ticket(m, 0), seed);
        }
        due("count(6)", x.count(6), seed);
        due("mass(0, false)", x.mass(0, false), sum);
        due("about(1, 0)", x.about(1, 0), 0);
        due("undo()", x.undo(), 11);
        due("about(0, 5)", x.about(0, 5), 4);
    }

    private static void undone(WhisperCrowd x, String call, LongSupplier calling) {
        long before = whole(x);
        int open = x.count(5);
        if (calling.getAsLong() < 0) due("whether " + call + " was refused", 1, 0);
        due("count(5) behind " + call, x.count(5), open + 1);
        due("undo() of " + call, x.undo(), open);
        due("what stands behind undo() of " + call, whole(x), before);
    }

    private static void promise17Undo() {
        WhisperCrowd x = chain(4, 9, 1, 6);
        x.round(1, 1);
        x.round(2, 1);
        x.send(0, 1);
        x.send(1, 2);
        x.lose(0);
        x.fall(3);
        x.fewest(0);
        undone(x, "come(5)", () -> x.come(5));
        undone(x, "line(0, 2)", () -> x.line(0, 2));
        undone(x, "cut(0, 1)", () -> x.cut(0, 1));
        undone(x, "set(1, 3)", () -> x.set(1, 3));
        undone(x, "back(3, 3)", () -> x.back(3, 3));
        undone(x, "fall(1)", () -> x.fall(1));
        undone(x, "leave(0, 1)", () -> x.leave(0, 1));
        undone(x, "talk(0, 0, 1)", () -> x.talk(0, 0, 1));
        undone(x, "talk(1, 0, 1)", () -> x.talk(1, 0, 1));
        undone(x, "talk(2, 1, 2)", () -> x.talk(2, 1, 2));
        undone(x, "send(2, 1)", () -> x.send(2, 1));
        undone(x, "bring(1)", () -> x.bring(1));
        undone(x, "lose(1)", () -> x.lose(1));
        undone(x, "seed(99)", () -> x.seed(99));
        undone(x, "draw(0, 9)", () -> x.draw(0, 9));
        undone(x, "round(0, 9)", () -> x.round(0, 9));
        undone(x, "fresh()", () -> x.fresh());
    }

    private static void promise17UndoTwenty() {
        WhisperCrowd x = new WhisperCrowd();
        long[] digests = new long[31];
        for (int i = 0; i < 30; i++) {
            digests[i] = x.digest();
            x.seed(100 + i);
            due("count(5)", x.count(5), Math.min(i + 1, 20));
        }
        for (int i = 29; i >= 15; i--) {
            due("undo()", x.undo(), i - 10);
            due("digest()", x.digest(), digests[i]);
        }
        x.seed(7);
        due("count(5)", x.count(5), 6);
        due("undo()", x.undo(), 5);
        for (int i = 14; i >= 10; i--) {
            due("undo()", x.undo(), i - 10);
            due("digest()", x.digest(), digests[i]);
        }
        refused(x, "undo() once more", () -> x.undo(), NO);
        due("count(6)", x.count(6), 109);
    }

    private static void promise18About() {
        WhisperCrowd x = chain(4, 9, 1);
        x.talk(1, 0, 1);
        int[] about = {1, 4, 9, 4, 3, 1};
        for (int what = 0; what < 6; what++) due("about(0, " + what + ")", x.about(0, what), about[what]);
        due("about(0, 6)", x.about(0, 6), BAD);
        due("about(0, -1)", x.about(0, -1), BAD);
        due("about(3, 0)", x.about(3, 0), BAD);
        for (int m : NOBODY) due("about(" + m + ", 0)", x.about(m, 0), BAD);
        x.fall(0);
        due("about(0, 0)", x.about(0, 0), 0);
        for (int what = 1; what < 6; what++) due("about(0, " + what + ")", x.about(0, what), NO);
        due("about(0, 6), 0 being away", x.about(0, 6), BAD);
        due("about(1, 4): it was heard", x.about(1, 4), 3);
    }

    private static void promise19Mass() {
        WhisperCrowd x = chain(-3, 4);
        x.send(1, 0);
        due("mass(0, false)", x.mass(0, false), -3 * U);
        due("mass(0, true)", x.mass(0, true), U);
        due("mass(1, false)", x.mass(1, false), 2 * U);
        due("mass(1, true)", x.mass(1, true), U / 2);
        due("mass(2, true)", x.mass(2, true), 0);
        for (int m : NOBODY) due("mass(" + m + ", true)", x.mass(m, true), 0);
        x.fall(0);
        due("mass(0, false), 0 being away", x.mass(0, false), 0);
        due("mass(0, true), 0 being away", x.mass(0, true), 0);
    }

    private static void promise20Guess() {
        int[] values = {1, 0, -1, MOST, -MOST, 3, -1000003, 12345, 7, 99};
        WhisperCrowd x = chain(values);
        for (int m = 0; m < 10; m++) due("guess(" + m + ")", x.guess(m), bits(values[m]));
        due("guess(10)", x.guess(10), -1);
        x.draw(0, 60);
        wearDown(x, 1);
        for (int i = 0; i < 25; i++) {
            x.draw(0, 2);
            x.set(i % 10, i * 104729 - 1000000);
            for (int m = 0; m < 10; m++) {
                double guess = (double) x.mass(m, false) / (double) x.mass(m, true);
                due("guess(" + m + ")", x.guess(m), bits(guess));
            }
        }
        for (int m : NOBODY) due("guess(" + m + ")", x.guess(m), -1);
        x.fall(9);
        due("guess(9), 9 being away", x.guess(9), -1);
        due("guess(10)", x.guess(10), -1);
    }

    private static void promise20GuessBelowOne() {
        WhisperCrowd x = chain(1, 0, 0, -1, 0);
        for (int i = 0; i < 40; i++) {
            x.talk(0, i % 4, i % 4 + 1);
            for (int m = 0; m < 5; m++) {
                double guess = (double) x.mass(m, false) / (double) x.mass(m, true);
                due("guess(" + m + ")", x.guess(m), bits(guess));
            }
        }
        WhisperCrowd y = chain(1, 0);
        y.talk(0, 0, 1);
        due("guess(0)", y.guess(0), bits(0.5));
        y.set(1, -1);
        due("guess(1)", y.guess(1), bits(-0.5));
    }

    /** Each time one leaves that has lost half a unit, the other has that much less. */
    private static void promise20NoGuess() {
        WhisperCrowd x = chain(6, 5);
        long[] weights = {U / 2, 0, -U / 2};
        for (int i = 0; i < 3; i++) {
            x.send(1, 0);
            x.lose(0);
            x.leave(1, 0);
            due("mass(0, true)", x.mass(0, true), weights[i]);
            double guess = (double) x.mass(0, false) / (double) weights[i];
            due("guess(0)", x.guess(0), i == 0 ? bits(guess) : -1);
            due("far()", x.far(), i == 0 ? bits(0) : -1);
            x.back(1, 5);
        }
        due("far(): 1 alone has a guess", x.far(), bits(0));
    }

    private static void promise21Book() {
        WhisperCrowd x = chain(3, 5, 7);
        x.talk(0, 0, 1);
        x.send(1, 0);
        due("book(0, 1, false)", x.book(0, 1, false), -U);
        due("book(1, 0, false)", x.book(1, 0, false), U + 2 * U);
        due("book(0, 1, true)", x.book(0, 1, true), 0);
        due("book(1, 0, true)", x.book(1, 0, true), U / 2);
        due("book(1, 2, true)", x.book(1, 2, true), 0);
        due("book(0, 0, false)", x.book(0, 0, false), 0);
        for (int m : NOBODY) {
            due("book(0, " + m + ", false)", x.book(0, m, false), 0);
            due("book(" + m + ", 0, false)", x.book(m, 0, false), 0);
        }
        due("book(1, 3, false)", x.book(1, 3, false), 0);
    }

    private static void promise22Letter() {
        WhisperCrowd x = chain(3, 5, 7);
        x.send(0, 1);
        x.send(2, 1);
        long[] second = {2, 1, 7 * U / 2, U / 2};
        for (int what = 0; what < 4; what++) due("letter(1, " + what + ")", x.letter(1, what), second[what]);
        due("letter(1, 4)", x.letter(1, 4), -1);
        due("letter(1, -1)", x.letter(1, -1), -1);
        for (int letter : new int[] {-1, 2, 7, 8, 2147483647, -2147483648}) {
            for (int what = 0; what < 4; what++) due("letter(" + letter + ")", x.letter(letter, what), -1);
        }
        x.bring(1);
        due("letter(1, 0), brought", x.letter(1, 0), -1);
        due("letter(0, 0)", x.letter(0, 0), 0);
    }

    private static void promise23Owed() {
        WhisperCrowd x = chain(8, 16, 32);
        x.send(0, 1);
        x.lose(0);
        x.send(0, 1);
        x.lose(0);
        x.send(1, 2);
        x.lose(0);
        due("owed(false)", x.owed(false), (4 + 2 + 8) * U);
        due("owed(true)", x.owed(true), U / 2 + U / 4 + U / 2);
        x.send(2, 1);
        due("owed(true): one under way is not owed", x.owed(true), U / 2 + U / 4 + U / 2);
        x.fall(2);
        due("owed(false)", x.owed(false), 6 * U);
        x.back(2, 0);
        due("owed(false)", x.owed(false), 6 * U);
        x.fall(0);
        due("owed(false)", x.owed(false), 0);
        due("owed(true)", x.owed(true), 0);
    }

    private static void promise24All() {
        WhisperCrowd x = chain(8, 16, 32, 1);
        x.send(0, 1);
        x.lose(0);
        x.send(1, 2);
        x.round(0, 3);
        due("all(false)", x.all(false), 57 * U);
        due("all(true)", x.all(true), 4 * U);
        x.leave(3, 2);
        due("all(false)", x.all(false), 56 * U);
        x.fall(1);
        due("all(false): as if 1 had never been there", x.all(false), 40 * U);
        due("all(true)", x.all(true), 2 * U);
        due("mass(0, false)", x.mass(0, false), 8 * U);
    }

    private static void promise25Far() {
        WhisperCrowd x = chain(-5, 3, 40);
        due("far()", x.far(), bits(45));
        x.fall(2);
        due("far()", x.far(), bits(8));
        x.talk(0, 0, 1);
        due("far()", x.far(), bits(0));
        x.set(0, 1);
        due("far()", x.far(), bits(6));
        x.fall(1);
        due("far()", x.far(), bits(0));
        x.fall(0);
        due("far()", x.far(), -1);
        WhisperCrowd y = chain(-5, -7);
        due("far() below 0", y.far(), bits(2));
    }

    private static void promise26Unsure() {
        WhisperCrowd x = chain(1, 2, 3);
        due("unsure()", x.unsure(), 0);
        x.talk(1, 1, 2);
        x.talk(1, 1, 0);
        due("unsure(): 2 has not heard 0", x.unsure(), 2);
        x.talk(1, 2, 1);
        due("unsure()", x.unsure(), NONE);
        x.set(1, 2);
        due("unsure()", x.unsure(), 0);
        x.fall(1);
        due("unsure(): those away don't matter", x.unsure(), NONE);
        x.come(4);
        due("unsure()", x.unsure(), 0);
        x.fall(0);
        due("unsure()", x.unsure(), 2);
    }

    private static void promise27Many() {
        WhisperCrowd x = chain(1, 2, 3, 4);
        due("many(0)", x.many(0), bits(1));
        x.talk(2, 0, 1);
        due("many(0)", x.many(0), bits(2));
        x.talk(2, 1, 2);
        due("many(1)", x.many(1), bits(3));
        x.talk(2, 2, 3);
        due("about(3, 5)", x.about(3, 5), 4);
        due("many(3)", x.many(3), bits(3.0 * 2147483648.0 / (double) x.ticket(3, 3)));
        due("many(4)", x.many(4), -1);
        for (int m : NOBODY) due("many(" + m + ")", x.many(m), -1);
        x.fall(3);
        due("many(3), 3 being away", x.many(3), -1);
        WhisperCrowd y = new WhisperCrowd();
        for (int m = 0; m < 4; m++) {
            y.seed(seedBeforeZero());
            y.come(m);
            if (m > 0) y.line(m - 1, m);
        }
        y.round(2, 3);
        due("ticket(0, 3)", y.ticket(0, 3), 0);
        due("many(0) by ticket 0", y.many(0), bits(1.0 / 0.0));
    }

    private static void promise28Ticket() {
        WhisperCrowd x = chain(1, 2, 3, 4, 5);
        due("ticket(0, 0)", x.ticket(0, 0), next(1));
        due("ticket(0, 1)", x.ticket(0, 1), NONE);
        x.round(2, 4);
        for (int i = 1; i < 4; i++) {
            due("whether tickets rise", x.ticket(2, i - 1) <= x.ticket(2, i) ? 1 : 0, 1);
        }
        due("ticket(2, 4)", x.ticket(2, 4), NONE);
        due("ticket(2, 2^31 - 1)", x.ticket(2, 2147483647), NONE);
        due("ticket(2, -1)", x.ticket(2, -1), NONE);
        due("ticket(2, -2^31)", x.ticket(2, -2147483648), NONE);
        due("ticket(5, -1)", x.ticket(5, -1), BAD);
        due("ticket(5, 0)", x.ticket(5, 0), BAD);
        for (int m : NOBODY) due("ticket(" + m + ", 0)", x.ticket(m, 0), BAD);
        x.fall(2);
        due("ticket(2, 0), 2 being away", x.ticket(2, 0), NO);
        due("ticket(2, 9), 2 being away", x.ticket(2, 9), NO);
        due("ticket(2, -1), 2 being away", x.ticket(2, -1), NO);
    }

    private static void promise29Fewest() {
        WhisperCrowd x = chain(0, 8, 8, 8);
        refused(x, "fewest(4)", () -> x.fewest(4), BAD);
        refused(x, "fewest(-1)", () -> x.fewest(-1), BAD);
        refused(x, "fewest(3), 0 having one line alone", () -> x.fewest(3), NONE);
        x.line(0, 3);
        refused(x, "fewest(2)", () -> x.fewest(2), NONE);
        long before = x.digest();
        due("fewest(3)", x.fewest(3), 3);
        due("digest(): no talk was had", x.digest(), before);
        due("count(4)", x.count(4), 0);
        x.talk(0, 0, 1);
        due("fewest(3)", x.fewest(3), 2);
        due("fewest(2)", x.fewest(2), 2);
        x.talk(0, 1, 2);
        due("fewest(3)", x.fewest(3), 1);
        due("fewest(0)", x.fewest(0), NONE);
        x.talk(0, 0, 3);
        due("fewest(3)", x.fewest(3), 0);
        x.send(0, 1);
        x.bring(0);
        due("fewest(1): the weights too", x.fewest(1), 1);
        WhisperCrowd six = crowd(0, 8, 2, 6, 1, 7);
        for (int m = 0; m < 6; m += 2) six.line(m, m + 1);
        due("fewest(3) of three pairs", six.fewest(3), 3);
        six.come(4);
        six.come(4);
        due("fewest(3) with two that are as they should", six.fewest(3), 3);
        six.come(5);
        due("fewest(3) with one that never is", six.fewest(3), NONE);
        six.fall(8);
        due("fewest(3) when it is away", six.fewest(3), 3);
    }

    private static void promise29Few() {
        due("fewest(0) of nobody", new WhisperCrowd().fewest(0), 0);
        due("fewest(0) of one", crowd(9).fewest(0), 0);
        due("fewest(0) of like ones", crowd(9, 9).fewest(0), 0);
        due("fewest(3) without a line", crowd(9, 8).fewest(3), NONE);
        due("fewest(0) of others", chain(9, 8).fewest(0), NONE);
    }

    /** Sums and weights of 1, 2, 3, 2: the rest has to be with the lesser one. */
    private static void promise29WhoAsks() {
        WhisperCrowd x = chain(1, 1, 1, 1);
        int[] letters = {20, 19, 20, 18};
        for (int m = 0; m < 4; m++) {
            for (int i = 0; i < letters[m]; i++) {
                x.send(m, m == 0 ? 1 : m - 1);
                x.lose(0);
            }
        }
        x.send(3, 2);
        x.bring(0);
        long[] due = {1, 2, 3, 2};
        for (int m = 0; m < 4; m++) due("mass(m, true)", x.mass(m, true), due[m]);
        due("fewest(1)", x.fewest(1), NONE);
        due("fewest(2)", x.fewest(2), 2);
        due("plan(0)", x.plan(0), 0);
        due("plan(1)", x.plan(1), 1);
        x.talk(0, 1, 0);
        due("fewest(3), the other one having asked", x.fewest(3), 2);
        x.undo();
        x.talk(0, 0, 1);
        due("fewest(3)", x.fewest(3), 1);
    }

    private static void promise30Plan() {
        WhisperCrowd x = crowd(8, 8, 0, 8);
        x.line(0, 1);
        x.line(3, 2);
        x.line(1, 2);
        x.line(0, 3);
        due("plan(0)", x.plan(0), NONE);
        due("fewest(3)", x.fewest(3), 3);
        int[] row = {2, 0, 3, NONE};
        for (int i = 0; i < 4; i++) due("plan(" + i + ")", x.plan(i), row[i]);
        due("fewest(2)", x.fewest(2), NONE);
        due("plan(0): the latest that told a number", x.plan(0), 2);
        due("fewest(4)", x.fewest(4), BAD);
        due("plan(2)", x.plan(2), 3);
        due("plan(-1)", x.plan(-1), NONE);
        due("plan(2^31 - 1)", x.plan(2147483647), NONE);
        due("plan(-2^31)", x.plan(-2147483648), NONE);
        x.fall(0);
        x.fall(3);
        due("fewest(3) of 1 and 2", x.fewest(3), 1);
        due("plan(0): among open lines alone", x.plan(0), 0);
        due("plan(1)", x.plan(1), NONE);
        x.undo();
        x.undo();
        due("plan(0): fewest() is not taken back", x.plan(0), 0);
        x.fall(2);
        due("fewest(3)", x.fewest(3), 0);
        due("plan(0)", x.plan(0), NONE);
    }

    private static void promise31Count() {
        WhisperCrowd x = chain(1, 2, 3);
        x.send(0, 1);
        x.send(2, 1);
        x.fall(2);
        x.talk(0, 0, 1);
        x.talk(1, 0, 1);
        x.talk(2, 0, 1);
        x.draw(1, 7);
        x.round(2, 5);
        int[] counts = {3, 2, 2, 1, 15, 13};
        for (int what = 0; what < 6; what++) due("count(" + what + ")", x.count(what), counts[what]);
        int seed = 1;
        for (int i = 0; i < 17; i++) seed = next(seed);
        due("count(6)", x.count(6), seed);
        due("count(7)", x.count(7), BAD);
        due("count(-1)", x.count(-1), BAD);
        x.undo();
        due("count(4)", x.count(4), 10);
        x.undo();
        due("count(4)", x.count(4), 3);
        due("count(5)", x.count(5), 11);
    }

    private static long digestByFace(WhisperCrowd x) {
        long h = 17;
        int n = x.count(0);
        for (int m = 0; m < n; m++) {
            h = 31 * h + x.about(m, 0);
            if (x.about(m, 0) == 0) continue;
            h = 31 * h + x.about(m, 1);
            h = 31 * (31 * h + x.mass(m, false)) + x.mass(m, true);
            for (int what = 2; what < 5; what++) h = 31 * h + x.about(m, what);
            for (int i = 0; i < x.about(m, 5); i++) h = 31 * h + x.ticket(m, i);
        }
        for (int a = 0; a < n; a++) {
            for (int b = a + 1; b < n; b++) {
                boolean joined = x.line(a, b) == NO;
                if (!joined) x.undo();
                h = 31 * h + (joined ? 1 : 0);
            }
        }
        for (int a = 0; a < n; a++) {
            for (int b = 0; b < n; b++) h = 31 * (31 * h + x.book(a, b, false)) + x.book(a, b, true);
        }
        for (int letter = 0; letter < 8; letter++) {
            boolean underWay = x.letter(letter, 0) >= 0;
            for (int what = 0; what < 4 && underWay; what++) h = 31 * h + x.letter(letter, what);
        }
        return 31 * (31 * (31 * h + x.owed(false)) + x.owed(true)) + x.count(6);
    }

    private static void promise32Digest() {
        WhisperCrowd x = starOfFive();
        due("digest()", x.digest(), digestByFace(x));
        x.draw(0, 9);
        x.draw(1, 3);
        x.draw(2, 5);
        x.send(0, 2);
        x.send(1, 2);
        x.send(4, 2);
        x.bring(1);
        due("digest()", x.digest(), digestByFace(x));
        x.leave(1, 2);
        due("digest()", x.digest(), digestByFace(x));
        WhisperCrowd one = crowd(5);
        long h = 17;
        for (long v : new long[] {1, 5, 5 * U, U, 5, 5, 1, next(1), 0, 0, 0, 0, next(1)}) h = 31 * h + v;
        due("digest() of one", one.digest(), h);
    }

    private static void run(int number, Runnable test) {
        promise = number;
        test.run();
    }

    private static void runWhoComesAndGoes() {
        run(1, PromisesTest::promise1New);
        run(2, PromisesTest::promise2Come);
        run(3, PromisesTest::promise3Line);
        run(4, PromisesTest::promise4Cut);
        run(5, PromisesTest::promise5Set);
        run(6, PromisesTest::promise6Back);
        run(7, PromisesTest::promise7Fall);
        run(8, PromisesTest::promise8Leave);
        run(8, PromisesTest::promise8LeaveOwing);
        run(8, PromisesTest::promise8LeaveOwed);
    }

    private static void runTalks() {
        run(9, PromisesTest::promise9Talk);
        run(9, PromisesTest::promise9Great);
        run(9, PromisesTest::promise9Count);
        run(9, PromisesTest::promise9CountTwoOfOne);
        run(9, PromisesTest::promise9CountLikeOnes);
        run(9, PromisesTest::promise9Refused);
        run(10, PromisesTest::promise10Send);
        run(11, PromisesTest::promise11Bring);
        run(12, PromisesTest::promise12Lose);
        run(13, PromisesTest::promise13Seed);
        run(14, PromisesTest::promise14Draw);
        run(15, PromisesTest::promise15Round);
        run(16, PromisesTest::promise16Fresh);
        run(17, PromisesTest::promise17Undo);
        run(17, PromisesTest::promise17UndoTwenty);
    }

    private static void runWhatIsAsked() {
        run(18, PromisesTest::promise18About);
        run(19, PromisesTest::promise19Mass);
        run(20, PromisesTest::promise20Guess);
        run(20, PromisesTest::promise20GuessBelowOne);
        run(20, PromisesTest::promise20NoGuess);
        run(21, PromisesTest::promise21Book);
        run(22, PromisesTest::promise22Letter);
        run(23, PromisesTest::promise23Owed);
        run(24, PromisesTest::promise24All);
        run(25, PromisesTest::promise25Far);
        run(26, PromisesTest::promise26Unsure);
        run(27, PromisesTest::promise27Many);
        run(28, PromisesTest::promise28Ticket);
        run(29, PromisesTest::promise29Fewest);
        run(29, PromisesTest::promise29Few);
        run(29, PromisesTest::promise29WhoAsks);
        run(30, PromisesTest::promise30Plan);
        run(31, PromisesTest::promise31Count);
        run(32, PromisesTest::promise32Digest);
    }

    public static void main(String[] args) {
        runWhoComesAndGoes();
        runTalks();
        runWhatIsAsked();
        System.out.println(wrong == 0 ? "all promises hold" : wrong + " answers are not as due");
        if (wrong != 0) System.exit(1);
    }
}
