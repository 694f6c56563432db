import java.util.function.ToLongFunction;

/** Promises 18 to 32, what is asked of the crowd: each sentence that names an edge. */
public final class AsksEdgeTest extends Edges {
    private static final int[] NO_NUMBERS = {LEAST_INT, -2, -1};

    /** Whatever is asked, and whatever the answer, nothing is another way behind it. */
    private static void onlyAsked(String call, ToLongFunction<WhisperCrowd> asking) {
        refused(Edges::busy, call, asking, asking.applyAsLong(busy()));
        refused(Edges::eightLetters, call, asking, asking.applyAsLong(eightLetters()));
        refused(WhisperCrowd::new, call, asking, asking.applyAsLong(new WhisperCrowd()));
    }

    private static void askingChangesNothing() {
        for (int m = -1; m <= 10; m++) {
            int n = m;
            onlyAsked("about(m, 0 .. 6)", x -> {
                long h = 0;
                for (int what = -1; what <= 6; what++) h = 31 * h + x.about(n, what);
                return h;
            });
            onlyAsked("mass, guess, many, ticket, book", x -> {
                long h = x.mass(n, true) + 31 * x.mass(n, false) + 7 * x.guess(n) + 3 * x.many(n);
                for (int i = -1; i < 5; i++) h = 31 * h + x.ticket(n, i) + x.book(n, i, true) + x.book(i, n, false);
                return h;
            });
            onlyAsked("letter, count, plan", x -> {
                long h = 0;
                for (int what = -1; what < 8; what++) h = 31 * h + x.letter(n, what) + x.count(what) + x.plan(what);
                return h;
            });
        }
        onlyAsked("owed, all, far, unsure, digest", x -> x.owed(true) + 3 * x.owed(false) + 5 * x.all(true)
            + 7 * x.all(false) + 11 * x.far() + 13 * x.unsure() + x.digest());
    }

    // ---- 18 about

    private static void aboutWhat() {
        WhisperCrowd x = fallen();
        int[] about = {1, 3, 3, 3, 1, 1};
        for (int what = 0; what < 6; what++) due("about(0, " + what + ")", x.about(0, what), about[what]);
        for (int what : new int[] {LEAST_INT, -1, 6, MOST_INT}) {
            due("about(0, " + what + ")", x.about(0, what), BAD);
            due("about(1, " + what + "), 1 being AWAY", x.about(1, what), BAD);
            due("about(3, " + what + ")", x.about(3, what), BAD);
        }
        for (int m : strangers(Edges::fallen)) {
            for (int what = 0; what < 6; what++) due("about(" + m + ", " + what + ")", x.about(m, what), BAD);
        }
    }

    private static void aboutOneAway() {
        WhisperCrowd[] crowds = {fallen(), left()};
        for (WhisperCrowd x : crowds) {
            due("about(1, 0)", x.about(1, 0), 0);
            for (int what = 1; what < 6; what++) due("about(1, " + what + ")", x.about(1, what), NO);
            x.back(1, TOP);
            int[] about = {1, TOP, TOP, TOP, 2, 1};
            for (int what = 0; what < 6; what++) due("about(1, " + what + ")", x.about(1, what), about[what]);
        }
    }

    private static void aboutAsManyAsThereCanBe() {
        WhisperCrowd x = full();
        due("about(9, 4), none but itself", x.about(9, 4), 512);
        due("about(9, 5), none but its own", x.about(9, 5), 1);
        x.round(1, 2);
        x.round(2, 2);
        for (int m = 0; m < 10; m++) {
            int[] about = {1, x.about(m, 1), 9, -8, 1023, 4};
            for (int what = 0; what < 6; what++) due("about(" + m + ", " + what + ")", x.about(m, what), about[what]);
        }
    }

    // ---- 19 to 21 mass, guess, book

    private static void massOfNobody() {
        WhisperCrowd x = fallen();
        for (int m : strangers(Edges::fallen)) {
            due("mass(" + m + ", false)", x.mass(m, false), 0);
            due("mass(" + m + ", true)", x.mass(m, true), 0);
        }
        WhisperCrowd[] crowds = {fallen(), left()};
        for (WhisperCrowd y : crowds) {
            due("mass(1, false), 1 being AWAY", y.mass(1, false), 0);
            due("mass(1, true), 1 being AWAY", y.mass(1, true), 0);
        }
        due("mass(0, true)", x.mass(0, true), U);
        due("mass(2, false)", x.mass(2, false), 7 * U);
        due("mass(9, false) of ten", full().mass(9, false), 9 * U);
    }

    private static void guessOfNobody() {
        for (int m : strangers(Edges::fallen)) due("guess(" + m + ")", fallen().guess(m), -1);
        due("guess(1), FALLEN", fallen().guess(1), -1);
        due("guess(1), LEFT", left().guess(1), -1);
        due("guess(9) of ten", full().guess(9), bits(9.0));
        due("guess(0) of a SUM of 0", crowd(0).guess(0), 0L);
    }

    private static void bookOfNobody() {
        WhisperCrowd x = chain(3, -5, 7);
        x.talk(0, 0, 1);
        due("book(0, 1, false)", x.book(0, 1, false), 4 * U);
        due("book(1, 0, false)", x.book(1, 0, false), -4 * U);
        due("book(0, 1, true), of like WEIGHTS", x.book(0, 1, true), 0);
        due("book(0, 2, false), who never talked", x.book(0, 2, false), 0);
        for (int m : strangers(() -> chain(3, -5, 7))) {
            for (int other = -1; other <= 3; other++) {
                due("book(" + m + ", " + other + ", false)", x.book(m, other, false), 0);
                due("book(" + other + ", " + m + ", true)", x.book(other, m, true), 0);
            }
        }
        for (int m = 0; m < 3; m++) due("book of itself", x.book(m, m, false), 0);
        x.fall(1);
        due("book(0, 1, false), 1 having FALLEN", x.book(0, 1, false), 0);
        due("book(1, 0, false)", x.book(1, 0, false), 0);
        WhisperCrowd y = full();
        y.talk(0, 9, 8);
        due("book(9, 8, false)", y.book(9, 8, false), 17 * U / 2);
        due("book(8, 9, false)", y.book(8, 9, false), -17 * U / 2);
    }

    // ---- 22 to 24 letter, owed, all

    private static void letterThatIsNone() {
        WhisperCrowd x = eightLetters();
        for (int letter = 0; letter < 8; letter++) {
            due("letter(" + letter + ", 0)", x.letter(letter, 0), letter % 2);
            due("letter(" + letter + ", 1)", x.letter(letter, 1), 1 - letter % 2);
            long share = letter % 2 == 0 ? 1000 * U : -3 * U;
            due("letter(" + letter + ", 2)", x.letter(letter, 2), share >> letter / 2 + 1);
            due("letter(" + letter + ", 3)", x.letter(letter, 3), U >> letter / 2 + 1);
            for (int what : new int[] {LEAST_INT, -1, 4, MOST_INT}) {
                due("letter(" + letter + ", " + what + ")", x.letter(letter, what), -1);
            }
        }
        x.bring(0);
        x.lose(7);
        for (int letter : new int[] {LEAST_INT, -1, 0, 7, 8, MOST_INT}) {
            for (int what = -1; what <= 4; what++) {
                due("letter(" + letter + ", " + what + "), none", x.letter(letter, what), -1);
            }
        }
        due("letter(6, 0)", x.letter(6, 0), 0);
    }

    private static void owedByNone() {
        WhisperCrowd x = eightLetters();
        due("owed(false), none being LOST", x.owed(false), 0);
        due("owed(true)", x.owed(true), 0);
        x.lose(0);
        due("owed(false)", x.owed(false), 500 * U);
        due("owed(true)", x.owed(true), U / 2);
        x.lose(1);
        due("owed(false), of both signs together", x.owed(false), 500 * U - 3 * U / 2);
        due("owed(true)", x.owed(true), U);
        x.fall(2);
        due("owed(true), one of neither having FALLEN", x.owed(true), U);
        x.fall(1);
        due("owed(false)", x.owed(false), 0);
        due("owed(true)", x.owed(true), 0);
        x.undo();
        due("owed(true), FALL being taken back", x.owed(true), U);
    }

    private static void allOfNobody() {
        WhisperCrowd x = crowd(TOP, TOP, TOP, TOP, TOP, TOP, TOP, TOP, TOP, TOP);
        due("all(false), the most of ten", x.all(false), 11258999068426240L);
        due("all(true)", x.all(true), 10485760L);
        for (int m = 0; m < 10; m++) x.set(m, -TOP);
        due("all(false), the least of ten", x.all(false), -11258999068426240L);
        for (int m = 0; m < 10; m++) x.fall(m);
        due("all(false), all being AWAY", x.all(false), 0);
        due("all(true)", x.all(true), 0);
        WhisperCrowd y = eightLetters();
        due("all(false), 8 LETTERS being UNDER WAY", y.all(false), 1002 * U);
        y.lose(4);
        due("all(false), one being owed", y.all(false), 1002 * U);
        y.leave(2, 1);
        due("all(false), less VALUE times UNIT", y.all(false), 997 * U);
        due("all(true), less a UNIT", y.all(true), 2 * U);
    }

    // ---- 25 and 26 far, unsure

    private static void farOfFew() {
        due("far() of one", crowd(-7).far(), 0L);
        due("far() of like ones", crowd(7, 7, 7).far(), 0L);
        due("far() of the least and the greatest", crowd(0, TOP, -TOP).far(), bits(2147483648.0));
        due("far(), all above 0", crowd(5, 3, 9).far(), bits(6.0));
        due("far(), all below 0", crowd(-5, -3, -9).far(), bits(6.0));
        due("far(), the greatest in between", crowd(0, 9, 5).far(), bits(9.0));
        due("far(), the least in between", crowd(0, -9, -5).far(), bits(9.0));
        due("far(), less than 1", halves().far(), bits(0.875));
        due("far(), one having FALLEN", fallen().far(), bits(4.0));
        WhisperCrowd x = crowd(4, 100);
        x.fall(0);
        due("far() of one who is not the first", x.far(), 0L);
        x.fall(1);
        due("far(), all being AWAY", x.far(), -1);
    }

    /** GUESSES of 0.5, 0.25, -0.375 and -0.375. */
    private static WhisperCrowd halves() {
        WhisperCrowd x = chain(1, 0, 0, -1);
        for (int m = 0; m < 3; m++) x.talk(0, m, m + 1);
        return x;
    }

    /** 0 has no WEIGHT: its SUM, the least by far, is no GUESS. */
    private static void farOfThoseWhoGuess() {
        WhisperCrowd x = chain(-1000, 5, 6);
        x.send(0, 1);
        x.lose(0);
        x.send(1, 0);
        x.lose(0);
        x.leave(1, 0);
        due("mass(0, true)", x.mass(0, true), 0);
        holds("0 has a SUM", x.mass(0, false) < 0);
        due("guess(0)", x.guess(0), -1);
        due("far(): 2 alone", x.far(), 0L);
        x.fall(2);
        due("far(): nobody has one", x.far(), -1);
        x.back(2, 8);
        x.back(1, 5);
        due("far(): 1 and 2", x.far(), bits(3.0));
    }

    private static void unsureOfFew() {
        due("unsure() of one", crowd(5).unsure(), NONE);
        due("unsure() of two", crowd(5, 6).unsure(), 0);
        WhisperCrowd x = web(1, 2, 3);
        x.talk(1, 0, 1);
        x.talk(1, 0, 2);
        due("unsure(): 1 has not heard 2", x.unsure(), 1);
        x.fall(1);
        due("unsure(): 0 and 2 have heard all", x.unsure(), NONE);
        x.back(1, 2);
        due("unsure(): nobody has heard 1 any more", x.unsure(), 0);
        x.fall(0);
        due("unsure(): the first that is HERE", x.unsure(), 1);
        x.fall(1);
        due("unsure() of one", x.unsure(), NONE);
        x.fall(2);
        due("unsure(), all being AWAY", x.unsure(), NONE);
        WhisperCrowd ten = full();
        ten.round(1, 2);
        due("unsure() of ten", ten.unsure(), NONE);
        ten.set(9, 9);
        due("unsure(), the last being set", ten.unsure(), 0);
        for (int m = 0; m < 9; m++) ten.talk(1, m, 9);
        due("unsure(): 9 has heard all, and all have heard 9", ten.unsure(), NONE);
        ten.set(0, 0);
        ten.talk(1, 9, 0);
        due("unsure(): 1 has not heard 0", ten.unsure(), 1);
    }

    // ---- 27 and 28 many, ticket

    private static WhisperCrowd ticketed(int... tickets) {
        WhisperCrowd x = new WhisperCrowd();
        for (int m = 0; m < tickets.length; m++) {
            x.seed(seedBefore(tickets[m]));
            x.come(m);
            for (int other = 0; other < m; other++) x.line(other, m);
        }
        return x;
    }

    private static void manyByTickets() {
        WhisperCrowd x = ticketed(0, 0, 0, 0);
        double infinite = 1.0 / 0.0;
        double[] many = {1.0, 2.0, 3.0, infinite};
        due("many(3)", x.many(3), bits(many[0]));
        for (int m = 0; m < 3; m++) {
            x.talk(2, 3, m);
            due("many(3) by " + (m + 2) + " TICKETS of 0", x.many(3), bits(many[m + 1]));
        }
        due("many(3), infinite", x.many(3), 9218868437227405312L);
        int[] greatest = {1, 2, 3, MOST_INT - 1, MOST_INT};
        double[] due = {6442450944.0, 3221225472.0, 2147483648.0, 6442450944.0 / 2147483646.0,
            6442450944.0 / 2147483647.0};
        for (int i = 0; i < greatest.length; i++) {
            WhisperCrowd y = ticketed(0, greatest[i], 1, 0);
            for (int m = 1; m < 4; m++) y.talk(2, 0, m);
            due("ticket(0, 3)", y.ticket(0, 3), greatest[i]);
            due("many(0) by " + greatest[i], y.many(0), bits(due[i]));
        }
        WhisperCrowd five = ticketed(0, 1, 2, 3, 4);
        five.round(2, 2);
        due("many(4): the fifth TICKET is nothing to it", five.many(4), bits(2147483648.0));
    }

    private static void manyOfNobody() {
        for (int m : strangers(Edges::fallen)) due("many(" + m + ")", fallen().many(m), -1);
        due("many(1), FALLEN", fallen().many(1), -1);
        due("many(1), LEFT", left().many(1), -1);
        due("many(9) of ten", full().many(9), bits(1.0));
    }

    private static void ticketOfSoMany() {
        WhisperCrowd x = ticketed(40, 10, 30, 20, 50);
        for (int known = 1; known <= 4; known++) {
            for (int i = 0; i < known; i++) holds("there is one", x.ticket(0, i) >= 10);
            for (int i = 1; i < known; i++) holds("they rise", x.ticket(0, i - 1) < x.ticket(0, i));
            for (int i : new int[] {known, known + 1, 5, 10, MOST_INT}) {
                due("ticket(0, " + i + ") of " + known, x.ticket(0, i), NONE);
            }
            for (int i : NO_NUMBERS) due("ticket(0, " + i + ")", x.ticket(0, i), NONE);
            if (known < 4) x.talk(2, 0, known);
        }
        int[] four = {10, 20, 30, 40, NONE};
        for (int i = 0; i < 5; i++) due("ticket(0, " + i + ")", x.ticket(0, i), four[i]);
        x.talk(2, 4, 0);
        for (int i = 0; i < 5; i++) due("ticket(4, " + i + ")", x.ticket(4, i), four[i]);
    }

    private static void ticketOfNobody() {
        for (int i : new int[] {LEAST_INT, -1, 0, 1, 4, MOST_INT}) {
            for (int m : strangers(Edges::fallen)) due("ticket(" + m + ", " + i + ")", fallen().ticket(m, i), BAD);
            due("ticket(1, " + i + "), FALLEN", fallen().ticket(1, i), NO);
            due("ticket(1, " + i + "), LEFT", left().ticket(1, i), NO);
        }
        WhisperCrowd x = fallen();
        x.back(1, 4);
        due("ticket(1, 0), back", x.ticket(1, 0), x.count(6));
        due("ticket(1, 1), back", x.ticket(1, 1), NONE);
    }

    // ---- 29 and 30 fewest, plan

    private static WhisperCrowd ring() {
        WhisperCrowd x = chain(0, 8, 8, 8);
        x.line(0, 3);
        return x;
    }

    private static void fewestWithinALimit() {
        for (int limit : new int[] {LEAST_INT, -1, 4, MOST_INT}) {
            refused(AsksEdgeTest::ring, "fewest(" + limit + ")", x -> x.fewest(limit), BAD);
            refused(Edges::busy, "fewest(" + limit + ")", x -> x.fewest(limit), BAD);
            refused(WhisperCrowd::new, "fewest(" + limit + ")", x -> x.fewest(limit), BAD);
        }
        WhisperCrowd x = ring();
        int[][] talks = {{0, 1}, {1, 2}, {0, 3}};
        for (int needed = 3; needed >= 0; needed--) {
            for (int limit = 0; limit <= 3; limit++) {
                long digest = x.digest();
                int open = x.count(5);
                due("fewest(" + limit + ")", x.fewest(limit), limit < needed ? NONE : needed);
                due("digest(): no TALK was had", x.digest(), digest);
                due("count(5)", x.count(5), open);
            }
            if (needed > 0) x.talk(0, talks[3 - needed][0], talks[3 - needed][1]);
        }
        refused(AsksEdgeTest::ring, "fewest(2), three being needed", y -> y.fewest(2), NONE);
        refused(() -> chain(0, 8, 8, 8), "fewest(3), more being needed", y -> y.fewest(3), NONE);
    }

    private static void fewestOfFew() {
        for (int limit = 0; limit <= 3; limit++) {
            due("fewest(" + limit + ") of nobody", new WhisperCrowd().fewest(limit), 0);
            due("fewest(" + limit + ") of one", crowd(TOP).fewest(limit), 0);
            due("fewest(" + limit + ") of like ones without a LINE", crowd(-3, -3, -3).fewest(limit), 0);
            due("fewest(" + limit + ") of others without a LINE", crowd(-3, 3).fewest(limit), NONE);
            due("fewest(" + limit + ") of one that is HERE", oneHere().fewest(limit), 0);
        }
    }

    private static WhisperCrowd oneHere() {
        WhisperCrowd x = chain(1, 2, 3);
        x.fall(0);
        x.fall(2);
        return x;
    }

    private static void fewestByLikeSumsAndWeights() {
        WhisperCrowd x = chain(0, 0);
        x.send(0, 1);
        due("fewest(0): like SUMS, other WEIGHTS", x.fewest(0), NONE);
        due("fewest(1): the LETTER is nothing to it", x.fewest(1), 1);
        x.undo();
        x.set(1, 2);
        due("fewest(0): like WEIGHTS, other SUMS", x.fewest(0), NONE);
        due("fewest(3)", x.fewest(3), 1);
        WhisperCrowd y = wornDown(1, 0);
        due("fewest(3): 1 and 0 never are like", y.fewest(3), NONE);
    }

    /** The asking one, the lesser, has the rest: 1 and 2 are 2 and 1 then, and that helps. */
    private static void fewestAskedByTheLesserOne() {
        WhisperCrowd x = wornDown(1, 2, 3);
        due("fewest(1)", x.fewest(1), NONE);
        due("fewest(3)", x.fewest(3), 2);
        due("plan(0)", x.plan(0), 0);
        due("plan(1)", x.plan(1), 1);
        due("fewest(3): 3 and 2 are 3 and 2 then", wornDown(3, 2, 1).fewest(3), NONE);
    }

    /** SUMS of 0 and WEIGHTS of 1, 2 and 3. */
    private static void fewestByWeightsAlone() {
        WhisperCrowd x = chain(0, 0, 0);
        wearDown(x, 0, 1);
        wearDown(x, 1, 0);
        x.undo();
        x.undo();
        x.undo();
        x.undo();
        wearDown(x, 2, 1);
        x.bring(x.send(1, 2));
        long[] weights = {1, 2, 3};
        for (int m = 0; m < 3; m++) due("mass(" + m + ", true)", x.mass(m, true), weights[m]);
        due("fewest(1)", x.fewest(1), NONE);
        due("fewest(2)", x.fewest(2), 2);
        due("plan(0)", x.plan(0), 0);
        due("plan(1)", x.plan(1), 1);
    }

    /** The first of two LINES leads nowhere; what it would change must not be left behind. */
    private static void fewestAfterARowThatFails() {
        WhisperCrowd x = chain(0, 0, 0, 0);
        x.line(0, 3);
        x.cut(2, 3);
        x.send(0, 3);
        x.lose(0);
        x.talk(0, 0, 3);
        x.cut(0, 3);
        x.send(2, 1);
        x.lose(0);
        long[] weights = {3 * U / 4, U, U / 2, 3 * U / 4};
        for (int m = 0; m < 4; m++) due("mass(" + m + ", true)", x.mass(m, true), weights[m]);
        for (int limit = 1; limit <= 3; limit++) {
            due("fewest(" + limit + ")", x.fewest(limit), 1);
            planIs(x, 1);
        }
    }

    /** A chain with these SUMS, and WEIGHTS of 1. */
    private static WhisperCrowd wornDown(int... sums) {
        WhisperCrowd x = chain(sums);
        for (int m = 0; m < sums.length; m++) wearDown(x, m, m == 0 ? 1 : m - 1);
        return x;
    }

    /** Six by three LINES is as many as three TALKS can change: a seventh has to be right. */
    private static void fewestOfMany() {
        WhisperCrowd x = crowd(0, 8, 1, 7, 6, 2, 4, 4, 4, 4);
        for (int m = 0; m < 6; m += 2) x.line(m, m + 1);
        due("fewest(3) of ten", x.fewest(3), 3);
        for (int i = 0; i < 3; i++) due("plan(" + i + ")", x.plan(i), i);
        due("fewest(2)", x.fewest(2), NONE);
        x.set(9, 5);
        due("fewest(3), the last being another way", x.fewest(3), NONE);
        x.set(9, 4);
        x.set(6, 5);
        due("fewest(3), the seventh being another way", x.fewest(3), NONE);
        x.fall(6);
        due("fewest(3), it being AWAY", x.fewest(3), 3);
        WhisperCrowd y = full();
        for (int m = 0; m < 10; m++) y.set(m, m == 0 ? 8 : 0);
        due("fewest(3) of ten, one having all", y.fewest(3), NONE);
        for (int m = 0; m < 10; m++) y.set(m, m < 2 ? 8 : m < 4 ? 0 : 4);
        due("fewest(3) of ten, four being another way", y.fewest(3), 2);
        int[] plan = {1, 10, NONE};
        for (int i = 0; i < 3; i++) due("plan(" + i + ")", y.plan(i), plan[i]);
        for (int m = 0; m < 10; m++) y.set(m, m == 8 ? 8 : m == 9 ? 0 : 4);
        due("fewest(3) of ten, the last two being another way", y.fewest(3), 1);
        due("plan(0): the last of 45 LINES", y.plan(0), 44);
    }

    private static void planOfTheLatest() {
        WhisperCrowd x = ring();
        for (int i = 0; i < 4; i++) due("plan(" + i + ") before any fewest()", x.plan(i), NONE);
        due("fewest(2)", x.fewest(2), NONE);
        due("plan(0): it told no number", x.plan(0), NONE);
        due("fewest(3)", x.fewest(3), 3);
        planIs(x, firstOfThree());
        due("fewest(2)", x.fewest(2), NONE);
        planIs(x, firstOfThree());
        due("fewest(4)", x.fewest(4), BAD);
        planIs(x, firstOfThree());
        x.fall(0);
        planIs(x, firstOfThree());
        due("fewest(0), all being like", x.fewest(0), 0);
        planIs(x);
    }

    /** LINES 0-1, 0-3, 1-2, 2-3; of all rows of three that end alike the first by numbers. */
    private static int[] firstOfThree() {
        int[][] lines = {{0, 1}, {0, 3}, {1, 2}, {2, 3}};
        for (int row = 0; row < 64; row++) {
            int[] three = {row / 16, row / 4 % 4, row % 4};
            WhisperCrowd x = ring();
            for (int line : three) x.talk(0, lines[line][0], lines[line][1]);
            boolean like = true;
            for (int m = 1; m < 4; m++) like = like && x.mass(m, false) == x.mass(0, false);
            if (like) return three;
        }
        return new int[0];
    }

    private static void planIs(WhisperCrowd x, int... row) {
        for (int i = 0; i < row.length; i++) due("plan(" + i + ")", x.plan(i), row[i]);
        for (int i : new int[] {row.length, row.length + 1, 3, MOST_INT}) due("plan(" + i + ")", x.plan(i), NONE);
        for (int i : NO_NUMBERS) due("plan(" + i + ")", x.plan(i), NONE);
    }

    // ---- 31 and 32 count, digest

    private static void countHowMany() {
        for (int what : new int[] {LEAST_INT, -1, 7, MOST_INT}) {
            due("count(" + what + ")", new WhisperCrowd().count(what), BAD);
            due("count(" + what + ")", busy().count(what), BAD);
        }
        WhisperCrowd x = full();
        for (int i = 0; i < 8; i++) x.send(0, 9);
        x.round(0, 20);
        x.draw(1, 60);
        x.talk(2, 4, 5);
        x.seed(MOST_INT);
        int[] counts = {10, 10, 45, 8, 961, 20, MOST_INT};
        for (int what = 0; what < 7; what++) due("count(" + what + ")", x.count(what), counts[what]);
        x.undo();
        x.undo();
        due("count(4), a TALK being taken back", x.count(4), 960);
        x.undo();
        due("count(4), draw() being taken back", x.count(4), 900);
        x.undo();
        due("count(4), round() being taken back", x.count(4), 0);
        for (int m = 0; m < 10; m++) x.fall(m);
        int[] gone = {10, 0, 45, 0, 0, 20};
        for (int what = 0; what < 6; what++) due("count(" + what + ")", x.count(what), gone[what]);
    }

    private static void digestOfFew() {
        WhisperCrowd x = new WhisperCrowd();
        due("digest() of nobody", x.digest(), 506448L);
        x.seed(MOST_INT);
        due("digest() of nobody, with the greatest SEED", x.digest(), 506447L + MOST_INT);
        x.seed(0);
        due("digest() of nobody, with a SEED of 0", x.digest(), 506447L);
        x.come(0);
        x.fall(0);
        long h = 17;
        for (long v : new long[] {0, 0, 0, 0, 0, 12345}) h = 31 * h + v;
        due("digest() of one that is AWAY", x.digest(), h);
    }

    /** Two, joined, two LETTERS UNDER WAY and one owed: each number stands here. */
    private static void digestOfTwo() {
        WhisperCrowd x = new WhisperCrowd();
        x.seed(seedBefore(90));
        x.come(5);
        x.seed(seedBefore(80));
        x.come(-6);
        x.line(0, 1);
        x.talk(2, 0, 1);
        x.talk(1, 0, 1);
        x.set(1, -8);
        x.send(1, 0);
        x.send(0, 1);
        x.lose(0);
        x.send(1, 0);
        long h = 17;
        long[] told = {
            1, 5, 5 * U / 2, U / 2, 5, -6, 1, 80, 90,
            1, -8, -2 * U, U / 4, -8, -8, 2, 80, 90,
            1,
            0, 0, 5 * U / 2, U / 2, -6 * U, 3 * U / 4, 0, 0,
            1, 0, -2 * U, U / 4, 0, 1, 5 * U / 2, U / 2,
            -4 * U, U / 2, 80};
        for (long v : told) h = 31 * h + v;
        due("digest()", x.digest(), h);
    }

    /** LETTERS 0 and 7 alone are UNDER WAY, one of three is AWAY. */
    private static void digestOfTheFirstAndTheLastLetter() {
        WhisperCrowd x = eightLetters();
        for (int letter = 1; letter < 7; letter++) x.bring(letter);
        x.fall(2);
        long h = 17;
        for (int m = 0; m < 2; m++) {
            int v = x.about(m, 1);
            long[] told = {1, v, x.mass(m, false), x.mass(m, true), v, v, 1 << m, x.ticket(m, 0)};
            for (long each : told) h = 31 * h + each;
        }
        for (long v : new long[] {0, 1, 0, 1}) h = 31 * h + v;
        for (int a = 0; a < 3; a++) {
            for (int b = 0; b < 3; b++) h = 31 * (31 * h + x.book(a, b, false)) + x.book(a, b, true);
        }
        for (long v : new long[] {0, 1, 500 * U, U / 2, 1, 0, -3 * U / 16, U / 16, 0, 0}) h = 31 * h + v;
        due("digest()", x.digest(), 31 * h + x.count(6));
    }

    private static void whoIsAsked() {
        on("18 .. 32", AsksEdgeTest::askingChangesNothing);
        on("18: BAD", AsksEdgeTest::aboutWhat);
        on("18: NO: it is AWAY (but for 0)", AsksEdgeTest::aboutOneAway);
        on("18: whom it has HEARD, how many TICKETS it knows", AsksEdgeTest::aboutAsManyAsThereCanBe);
        on("19: BAD, or AWAY: 0", AsksEdgeTest::massOfNobody);
        on("20: BAD, AWAY, none: -1", AsksEdgeTest::guessOfNobody);
        on("21: BAD: 0", AsksEdgeTest::bookOfNobody);
        on("22: BAD: -1", AsksEdgeTest::letterThatIsNone);
        on("23: WHAT IS OWED together", AsksEdgeTest::owedByNone);
        on("24: All MASS, together", AsksEdgeTest::allOfNobody);
    }

    private static void whatIsTold() {
        on("25: the greatest less the least", AsksEdgeTest::farOfFew);
        on("25: -1: nobody has one", AsksEdgeTest::farOfThoseWhoGuess);
        on("26: NONE", AsksEdgeTest::unsureOfFew);
        on("27: under four; by the greatest of the four; of TICKET 0", AsksEdgeTest::manyByTickets);
        on("27: BAD, AWAY: -1", AsksEdgeTest::manyOfNobody);
        on("28: NONE: not so many", AsksEdgeTest::ticketOfSoMany);
        on("28: BAD; NO: AWAY", AsksEdgeTest::ticketOfNobody);
        on("29: limit being 0 .. 3; NONE: no such row; BAD", AsksEdgeTest::fewestWithinALimit);
        on("29: the fewest of nobody, of one", AsksEdgeTest::fewestOfFew);
        on("29: like SUMS and like WEIGHTS", AsksEdgeTest::fewestByLikeSumsAndWeights);
        on("29: asked by the lesser one", AsksEdgeTest::fewestAskedByTheLesserOne);
        on("29: like WEIGHTS", AsksEdgeTest::fewestByWeightsAlone);
        on("29: no such row, but another", AsksEdgeTest::fewestAfterARowThatFails);
        on("29: all that are HERE", AsksEdgeTest::fewestOfMany);
        on("30: the latest that told a number; NONE: not so many", AsksEdgeTest::planOfTheLatest);
        on("31: how many; BAD", AsksEdgeTest::countHowMany);
        on("32: of each MEMBER; THE SEED", AsksEdgeTest::digestOfFew);
        on("32: of each two, of each a, b", AsksEdgeTest::digestOfTwo);
        on("32: of LETTERS 0 .. 7 that are UNDER WAY", AsksEdgeTest::digestOfTheFirstAndTheLastLetter);
    }

    public static void main(String[] args) {
        whoIsAsked();
        whatIsTold();
        end("asks");
    }
}
