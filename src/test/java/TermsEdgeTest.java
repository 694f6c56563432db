import java.math.BigInteger;

/** Each sentence of the document's "Terms" that names an edge. */
public final class TermsEdgeTest extends Edges {

    // ---- 1 members

    private static void membersAsTheyCome() {
        WhisperCrowd x = new WhisperCrowd();
        for (int m = 0; m < 10; m++) {
            due("count(0) before " + m + " comes", x.count(0), m);
            due("about(" + m + ", 0) before it comes", x.about(m, 0), BAD);
            due("come(0)", x.come(0), m);
            due("about(" + m + ", 0)", x.about(m, 0), 1);
        }
        due("about(9, 4)", x.about(9, 4), 512);
        due("about(10, 0)", x.about(10, 0), BAD);
    }

    private static void valueTimesUnit() {
        int[] values = {-TOP, 1 - TOP, -1, 0, 1, TOP - 1, TOP};
        long[] sums = {-1125899906842624L, -1125899905794048L, -1048576L, 0L, 1048576L, 1125899905794048L,
            1125899906842624L};
        for (int i = 0; i < values.length; i++) {
            WhisperCrowd x = crowd(values[i], 5);
            due("mass(0, false) of " + values[i], x.mass(0, false), sums[i]);
            due("mass(0, true) of " + values[i], x.mass(0, true), 1048576L);
            due("about(0, 1)", x.about(0, 1), values[i]);
            x.fall(1);
            x.back(1, values[i]);
            due("mass(1, false) of " + values[i] + ", back", x.mass(1, false), sums[i]);
            due("mass(1, true) of " + values[i] + ", back", x.mass(1, true), 1048576L);
        }
    }

    /** Member 0 has a WEIGHT of 1 - 2^19, which lost LETTERS bring to -1, and then to 0. */
    private static WhisperCrowd weightBelowNought() {
        WhisperCrowd x = chain(6, 5);
        wearDown(x, 0, 1);
        x.send(1, 0);
        x.lose(0);
        x.leave(1, 0);
        x.back(1, 5);
        return x;
    }

    private static void noGuessUnlessWeightIsAboveNought() {
        WhisperCrowd x = chain(6, 5);
        wearDown(x, 0, 1);
        due("mass(0, true), the least above 0", x.mass(0, true), 1);
        due("guess(0) of 6 by 1", x.guess(0), bits(6.0));
        x = weightBelowNought();
        for (int power = 19; power >= 1; power--) {
            due("mass(0, true)", x.mass(0, true), 1 - (1L << power));
            due("guess(0) by " + x.mass(0, true), x.guess(0), -1);
            due("far(), 1 alone having a guess", x.far(), 0);
            x.send(0, 1);
            x.lose(0);
        }
        due("mass(0, true)", x.mass(0, true), 0);
        due("guess(0) by 0", x.guess(0), -1);
    }

    private static void guessIsDoubleByDouble() {
        WhisperCrowd x = chain(TOP, 3, 1);
        wearDown(x, 1, 0);
        x.talk(0, 0, 1);
        x.talk(0, 1, 2);
        x.talk(0, 2, 1);
        for (int m = 0; m < 3; m++) {
            due("guess(" + m + ")", x.guess(m), bits((double) x.mass(m, false) / (double) x.mass(m, true)));
        }
        WhisperCrowd half = chain(1, 0, 0, 0, 0, 0, 0, 0, 0, -1);
        for (int m = 0; m < 8; m++) {
            half.talk(0, m, m + 1);
            due("guess(" + m + "), a half by one half", half.guess(m), bits(1.0 / (2 << m)));
        }
        half.talk(0, 9, 8);
        due("guess(9) below 0", half.guess(9), bits(-255.0 / 512.0));
        WhisperCrowd y = crowd(0, -1, 1, TOP, -TOP);
        long[] guesses = {0L, bits(-1.0), bits(1.0), bits(1073741824.0), bits(-1073741824.0)};
        for (int m = 0; m < 5; m++) due("guess(" + m + ")", y.guess(m), guesses[m]);
        WhisperCrowd z = grown(17);
        holds("the SUM is more than a double can tell", Math.abs(z.mass(0, false)) > 1L << 60);
        due("guess(0)", z.guess(0), bits((double) z.mass(0, false) / (double) z.mass(0, true)));
    }

    private static void halfIsTheGreatestWholeNotAbove() {
        int[] sums = {0, 1, -1, 2, -2, 3, -3, 4, -4, 5, -5, TOP, -TOP, TOP - 1, 1 - TOP};
        int[] halves = {0, 0, -1, 1, -1, 1, -2, 2, -2, 2, -3, 536870912, -536870912, 536870911, -536870912};
        int[] rests = {0, 1, 0, 1, -1, 2, -1, 2, -2, 3, -2, 536870912, -536870912, 536870912, -536870911};
        for (int i = 0; i < sums.length; i++) {
            WhisperCrowd x = chain(sums[i], 0);
            wearDown(x, 0, 1);
            due("mass(0, false), worn down", x.mass(0, false), sums[i]);
            x.send(0, 1);
            due("letter(0, 2), the half of " + sums[i], x.letter(0, 2), halves[i]);
            due("mass(0, false), the rest of " + sums[i], x.mass(0, false), rests[i]);
            due("letter(0, 3), the half of 1", x.letter(0, 3), 0);
            due("mass(0, true), the rest of 1", x.mass(0, true), 1);
        }
    }

    private static void halfOfAWeightBelowNought() {
        WhisperCrowd x = weightBelowNought();
        for (int power = 19; power >= 1; power--) {
            x.send(0, 1);
            due("letter(0, 3), the half of 1 - 2^" + power, x.letter(0, 3), -(1L << power - 1));
            due("mass(0, true), the rest", x.mass(0, true), 1 - (1L << power - 1));
            x.lose(0);
        }
        x.send(0, 1);
        due("letter(0, 3), the half of 0", x.letter(0, 3), 0);
        due("mass(0, true), the rest of 0", x.mass(0, true), 0);
        WhisperCrowd y = weightBelowNought();
        y.talk(0, 1, 0);
        due("mass(0, true), the half of 2^19 + 1", y.mass(0, true), 262144);
        due("mass(1, true), the rest of 2^19 + 1", y.mass(1, true), 262145);
        for (int asker = 0; asker < 2; asker++) {
            WhisperCrowd z = weightBelowNought();
            for (int i = 0; i < 2; i++) z.lose(z.send(1, 0));
            z.talk(0, asker, 1 - asker);
            due("mass(other, true), the half of 1 - 2^18", z.mass(1 - asker, true), -131072);
            due("mass(asker, true), the rest of 1 - 2^18", z.mass(asker, true), -131071);
        }
    }

    // ---- 1 members: sums that wrap around

    private static void give(WhisperCrowd x, int from, int to) {
        x.talk(0, from, to);
        for (int i = 0; i < 2; i++) x.bring(x.send(from, to));
    }

    /**
     * A SUM goes round over 1 and 2 and comes back; then 1 falls, as if nothing had gone
     * over it, and 2 leaves: each time 0 has more, and 3 less by as much.
     */
    private static WhisperCrowd grown(int rounds) {
        WhisperCrowd x = web(TOP, 0, 0, 0);
        for (int i = 0; i < rounds; i++) {
            goRound(x);
            x.fall(1);
            x.back(1, 0);
            x.leave(2, 3);
            x.back(2, 0);
        }
        return x;
    }

    private static void goRound(WhisperCrowd x) {
        give(x, 0, 1);
        give(x, 1, 2);
        give(x, 2, 0);
    }

    private static BigInteger big(long x) {
        return BigInteger.valueOf(x);
    }

    private static boolean isLong(BigInteger x) {
        return x.bitLength() < 64;
    }

    private static void fallWrapsAround() {
        WhisperCrowd x = grown(17);
        goRound(x);
        BigInteger has = big(x.mass(0, false)).add(big(x.book(0, 1, false)));
        holds("what 0 has then is more than a long can hold", !isLong(has));
        x.fall(1);
        due("mass(0, false), wrapped around", x.mass(0, false), has.longValue());
        due("all(false): it comes out for all that", x.all(false), TOP * U);
    }

    /** Of two SUMS that are together less than a long can hold. */
    private static void evenWrapsAround() {
        for (int asker = 2; asker <= 3; asker++) {
            WhisperCrowd x = grown(17);
            goRound(x);
            x.fall(1);
            int other = 5 - asker;
            long had = x.mass(other, false);
            BigInteger both = big(x.mass(2, false)).add(big(x.mass(3, false)));
            holds("both together are no long", !isLong(both));
            long half = both.longValue() >> 1;
            due("talk(0, asker, other)", x.talk(0, asker, other), 1);
            due("mass(other, false), the half of what wrapped around", x.mass(other, false), half);
            due("mass(asker, false), the rest", x.mass(asker, false), both.longValue() - half);
            due("book(asker, other, false)", x.book(asker, other, false), half - had);
            due("all(false)", x.all(false), TOP * U);
        }
    }

    private static void leavingWrapsAround() {
        WhisperCrowd x = grown(17);
        goRound(x);
        x.fall(1);
        BigInteger both = big(x.mass(2, false)).add(big(x.mass(3, false)));
        holds("both together are no long", !isLong(both));
        due("leave(2, 3)", x.leave(2, 3), 1);
        due("mass(3, false), wrapped around", x.mass(3, false), both.longValue());
        due("all(false)", x.all(false), TOP * U);
    }

    // ---- 2 talks

    private static void evenOfSmallSums() {
        for (int a = -3; a <= 3; a++) {
            for (int b = -3; b <= 3; b++) {
                WhisperCrowd x = chain(a, b);
                wearDown(x, 0, 1);
                wearDown(x, 1, 0);
                long half = Math.floorDiv(a + b, 2);
                x.talk(0, 1, 0);
                due("mass(0, false) of " + a + " and " + b + ", 1 asking", x.mass(0, false), half);
                due("mass(1, false)", x.mass(1, false), a + b - half);
                x.undo();
                x.talk(0, 0, 1);
                due("mass(1, false) of " + a + " and " + b + ", 0 asking", x.mass(1, false), half);
                due("mass(0, false)", x.mass(0, false), a + b - half);
                due("mass(0, true) of 1 and 1", x.mass(0, true), 1);
            }
        }
    }

    /** WEIGHTS of a UNIT and a UNIT's half, and then of 3 and of 1. */
    private static void evenOfOtherWeights() {
        for (int asker = 0; asker < 2; asker++) {
            WhisperCrowd x = chain(8, 4);
            x.send(0, 1);
            x.lose(0);
            long booked = x.book(0, 1, true);
            x.talk(0, asker, 1 - asker);
            due("mass(0, true), asked by " + asker, x.mass(0, true), 3 * U / 4);
            due("mass(1, true)", x.mass(1, true), 3 * U / 4);
            due("book(1, 0, true)", x.book(1, 0, true), U / 4);
            due("book(0, 1, true)", x.book(0, 1, true), booked - U / 4);
            due("mass(0, false)", x.mass(0, false), 4 * U);
            due("book(1, 0, false)", x.book(1, 0, false), 0);
            WhisperCrowd y = chain(0, 0, 0);
            wearDown(y, 0, 1);
            wearDown(y, 1, 2);
            y.undo();
            y.undo();
            due("mass(1, true)", y.mass(1, true), 2);
            long of0 = y.book(0, 1, true);
            long of1 = y.book(1, 0, true);
            y.talk(0, asker, 1 - asker);
            due("mass(0, true), of 1 and 2", y.mass(0, true), asker == 0 ? 2 : 1);
            due("mass(1, true), of 1 and 2", y.mass(1, true), asker == 0 ? 1 : 2);
            due("book(0, 1, true)", y.book(0, 1, true), asker == 0 ? of0 - 1 : of0);
            due("book(1, 0, true)", y.book(1, 0, true), asker == 0 ? of1 + 1 : of1);
        }
    }

    private static void greatestAndLeastThereCanBe() {
        WhisperCrowd x = web(0, TOP, -TOP, 0, 0, 0, 0, 0, 0, 0);
        x.talk(1, 0, 1);
        due("about(0, 2)", x.about(0, 2), TOP);
        due("about(0, 3)", x.about(0, 3), 0);
        x.talk(1, 2, 0);
        due("about(2, 2)", x.about(2, 2), TOP);
        due("about(2, 3)", x.about(2, 3), -TOP);
        due("about(0, 2)", x.about(0, 2), TOP);
        due("about(0, 3)", x.about(0, 3), -TOP);
        due("about(1, 3): it was not asked", x.about(1, 3), 0);
        x.talk(1, 1, 3);
        due("about(3, 2)", x.about(3, 2), TOP);
        due("about(3, 3)", x.about(3, 3), 0);
        x.talk(1, 2, 4);
        due("about(4, 2)", x.about(4, 2), TOP);
        due("about(4, 3)", x.about(4, 3), -TOP);
        x.talk(1, 5, 2);
        due("about(5, 2)", x.about(5, 2), TOP);
        due("about(5, 3)", x.about(5, 3), -TOP);
        x.undo();
        x.undo();
        x.undo();
        for (int m = 3; m < 10; m++) x.talk(1, 0, m);
        due("about(9, 4): it has heard all", x.about(9, 4), 1023);
        due("about(0, 4)", x.about(0, 4), 1023);
        due("about(1, 4)", x.about(1, 4), 3);
        x.talk(1, 0, 9);
        due("about(0, 4), again", x.about(0, 4), 1023);
    }

    /** Members with these TICKETS, a LINE between each two. */
    private static WhisperCrowd ticketed(int... tickets) {
        WhisperCrowd x = new WhisperCrowd();
        for (int m = 0; m < tickets.length; m++) {
            x.seed(seedBefore(tickets[m]));
            x.come(m);
            for (int other = 0; other < m; other++) x.line(other, m);
        }
        return x;
    }

    private static void knowsTickets(WhisperCrowd x, int m, int... tickets) {
        due("about(" + m + ", 5)", x.about(m, 5), tickets.length);
        for (int i = 0; i < tickets.length; i++) due("ticket(" + m + ", " + i + ")", x.ticket(m, i), tickets[i]);
        due("ticket(" + m + ", " + tickets.length + ")", x.ticket(m, tickets.length), NONE);
    }

    private static void fourLeastTickets() {
        WhisperCrowd x = ticketed(0, MOST_INT, 20, 30, 25, 40);
        knowsTickets(x, 1, MOST_INT);
        x.talk(2, 1, 0);
        knowsTickets(x, 1, 0, MOST_INT);
        knowsTickets(x, 0, 0, MOST_INT);
        x.talk(2, 2, 1);
        knowsTickets(x, 2, 0, 20, MOST_INT);
        knowsTickets(x, 0, 0, MOST_INT);
        x.talk(2, 2, 3);
        knowsTickets(x, 2, 0, 20, 30, MOST_INT);
        knowsTickets(x, 3, 0, 20, 30, MOST_INT);
        x.talk(2, 4, 3);
        knowsTickets(x, 3, 0, 20, 25, 30);
        knowsTickets(x, 4, 0, 20, 25, 30);
        x.talk(2, 5, 3);
        knowsTickets(x, 5, 0, 20, 25, 30);
        x.talk(2, 3, 4);
        knowsTickets(x, 3, 0, 20, 25, 30);
        due("count(4)", x.count(4), 6);
    }

    private static void fourAndFourTickets() {
        for (int asker = 0; asker <= 4; asker += 4) {
            WhisperCrowd x = ticketed(10, 30, 50, 70, 20, 40, 60, 80);
            for (int m = 1; m < 4; m++) x.talk(2, 0, m);
            for (int m = 5; m < 8; m++) x.talk(2, 4, m);
            knowsTickets(x, 0, 10, 30, 50, 70);
            knowsTickets(x, 4, 20, 40, 60, 80);
            x.talk(2, asker, 4 - asker);
            knowsTickets(x, 0, 10, 20, 30, 40);
            knowsTickets(x, 4, 10, 20, 30, 40);
        }
    }

    /**
     * Five like TICKETS: the greatest MEMBER's is left out by each of the others, whoever asks;
     * its new one shows, in its own talk, that the four are the others'.
     */
    private static void likeTicketsByLesserMember() {
        for (int way = 0; way < 2; way++) {
            WhisperCrowd x = ticketed(7, 7, 7, 7, 7);
            for (int m = 3; m >= 0; m--) x.talk(2, way == 0 ? 4 : m, way == 0 ? m : 4);
            knowsTickets(x, 0, 7, 7, 7, 7);
            x.fall(4);
            x.seed(seedBefore(9));
            x.back(4, 0);
            x.talk(2, 4, 0);
            knowsTickets(x, 0, 7, 7, 7, 7);
            x.undo();
            x.talk(2, 4, 3);
            knowsTickets(x, 3, 7, 9);
        }
    }

    private static void ofTwoTicketsTheAskersOne() {
        for (int asker = 0; asker < 2; asker++) {
            WhisperCrowd x = ticketed(50, 60);
            x.talk(2, 0, 1);
            x.fall(0);
            x.seed(seedBefore(70));
            x.back(0, 0);
            knowsTickets(x, 0, 70);
            knowsTickets(x, 1, 50, 60);
            x.talk(2, asker, 1 - asker);
            int[] known = asker == 0 ? new int[] {60, 70} : new int[] {50, 60};
            knowsTickets(x, 0, known);
            knowsTickets(x, 1, known);
        }
    }

    /** The asker's one counts even where it is none of the four then: the other's is gone. */
    private static void theAskersOneFallsOut() {
        WhisperCrowd x = ticketed(50, 10, 20, 30, 40);
        for (int m = 2; m < 5; m++) x.talk(2, 1, m);
        x.fall(1);
        x.seed(seedBefore(90));
        x.back(1, 0);
        knowsTickets(x, 1, 90);
        x.talk(2, 1, 0);
        knowsTickets(x, 1, 50, 90);
        knowsTickets(x, 4, 10, 20, 30, 40);
        x.talk(2, 1, 4);
        knowsTickets(x, 1, 20, 30, 40, 50);
        knowsTickets(x, 4, 20, 30, 40, 50);
        x.talk(2, 3, 4);
        knowsTickets(x, 3, 10, 20, 30, 40);
    }

    private static void whoComesBackOrIsSet() {
        WhisperCrowd x = web(1, 2, 3);
        x.round(1, 2);
        x.round(2, 2);
        int seed = x.count(6);
        x.set(1, 9);
        due("count(6): set() draws nothing", x.count(6), seed);
        due("about(1, 5): set() leaves TICKETS", x.about(1, 5), 3);
        due("about(1, 4): itself alone", x.about(1, 4), 2);
        due("about(0, 4)", x.about(0, 4), 5);
        due("about(2, 4)", x.about(2, 4), 5);
        due("about(0, 2): what was known stays", x.about(0, 2), 3);
        x.fall(2);
        due("about(0, 4): one that is AWAY was heard", x.about(0, 4), 5);
        x.back(2, 0);
        due("about(0, 4): nobody has heard it any more", x.about(0, 4), 1);
        due("about(2, 4)", x.about(2, 4), 4);
        due("about(2, 5)", x.about(2, 5), 1);
        due("ticket(2, 0)", x.ticket(2, 0), next(seed));
        due("about(0, 5): TICKETS stay", x.about(0, 5), 3);
    }

    private static void theSeedsBits() {
        int[] seeds = {1, 0, MOST_INT, seedBefore(0), seedBefore(MOST_INT), seedBefore(TOP)};
        int[] drawn = {1103527590, 12345, 1043980748, 0, MOST_INT, TOP};
        due("count(6), at first", new WhisperCrowd().count(6), 1);
        for (int i = 0; i < seeds.length; i++) {
            WhisperCrowd x = chain(1, 2);
            x.seed(seeds[i]);
            x.come(0);
            due("ticket(2, 0) by seed " + seeds[i], x.ticket(2, 0), drawn[i]);
            due("count(6) by seed " + seeds[i], x.count(6), drawn[i]);
            x.seed(seeds[i]);
            x.fresh();
            due("ticket(0, 0) by fresh() and seed " + seeds[i], x.ticket(0, 0), drawn[i]);
            x.fall(1);
            x.seed(seeds[i]);
            x.back(1, 0);
            due("ticket(1, 0) by back() and seed " + seeds[i], x.ticket(1, 0), drawn[i]);
            x.seed(seeds[i]);
            x.draw(0, 1);
            due("count(6) by draw()", x.count(6), next(drawn[i]));
        }
        WhisperCrowd x = chain(1, 2);
        x.draw(0, 1);
        due("count(6): the known row of the drawings", x.count(6), 1147902781);
    }

    // ---- 3 books

    private static void booksOfLetters() {
        WhisperCrowd x = chain(-5, 3);
        wearDown(x, 0, 1);
        x.undo();
        long booked = x.book(0, 1, false);
        x.bring(0);
        due("book(0, 1, false): bringing leaves the sender's", x.book(0, 1, false), booked);
        x.send(0, 1);
        due("letter(0, 2), the half of -5", x.letter(0, 2), -3);
        due("book(0, 1, false), by a letter below 0", x.book(0, 1, false), booked - 3);
        long other = x.book(1, 0, false);
        x.bring(0);
        due("book(1, 0, false), with the sign turned", x.book(1, 0, false), other + 3);
        x.send(0, 1);
        x.lose(0);
        due("book(1, 0, false): what is lost is not in it", x.book(1, 0, false), other + 3);
    }

    private static void booksOfLettersByWeight() {
        WhisperCrowd x = chain(-5, 3);
        x.send(0, 1);
        due("book(0, 1, true)", x.book(0, 1, true), U / 2);
        due("book(1, 0, true), while it is UNDER WAY", x.book(1, 0, true), 0);
        x.bring(0);
        due("book(1, 0, true)", x.book(1, 0, true), -U / 2);
        due("mass(1, true)", x.mass(1, true), 3 * U / 2);
        due("mass(1, false)", x.mass(1, false), U / 2);
        x.send(1, 0);
        due("book(1, 0, true)", x.book(1, 0, true), U / 4);
        x.bring(0);
        due("book(0, 1, true)", x.book(0, 1, true), -U / 4);
        due("mass(0, true)", x.mass(0, true), 5 * U / 4);
    }

    private static void fallOfOneWithBooks() {
        WhisperCrowd x = web(8, -16, 32, 4);
        x.round(0, 2);
        x.fall(3);
        x.round(0, 1);
        x.fall(2);
        due("mass(3, false): one that is AWAY has nothing", x.mass(3, false), 0);
        x.fall(1);
        due("mass(0, false): as if nobody had been there", x.mass(0, false), 8 * U);
        due("mass(0, true)", x.mass(0, true), U);
        due("fall(0), the last one", x.fall(0), 0);
        for (int m = 0; m < 4; m++) {
            due("mass(" + m + ", true)", x.mass(m, true), 0);
            for (int other = 0; other < 4; other++) {
                due("book(" + m + ", " + other + ", false)", x.book(m, other, false), 0);
                due("book(" + m + ", " + other + ", true)", x.book(m, other, true), 0);
            }
        }
        due("all(true)", x.all(true), 0);
    }

    private static void fallLeavesLettersOfOthers() {
        WhisperCrowd x = web(8, 16, 32);
        x.send(0, 1);
        x.send(1, 2);
        x.send(0, 2);
        x.send(2, 0);
        due("fall(1)", x.fall(1), 2);
        due("letter(0, 0)", x.letter(0, 0), -1);
        due("letter(1, 0)", x.letter(1, 0), -1);
        due("letter(2, 0)", x.letter(2, 0), 0);
        due("letter(3, 0)", x.letter(3, 0), 2);
        due("mass(0, false): what was under way to 1 is back", x.mass(0, false), 6 * U);
        due("mass(2, false)", x.mass(2, false), 16 * U);
        due("send(0, 2): the least free number", x.send(0, 2), 0);
    }

    private static void leavingWithTheExtremeValues() {
        int[] values = {-TOP, TOP};
        for (int value : values) {
            WhisperCrowd x = chain(1, value, 3);
            x.talk(0, 0, 1);
            long sum = x.mass(1, false) + x.mass(0, false);
            due("leave(1, 0)", x.leave(1, 0), 1);
            due("mass(0, false): less VALUE times UNIT", x.mass(0, false), sum - value * U);
            due("mass(0, false)", x.mass(0, false), U);
            due("mass(0, true): less a UNIT", x.mass(0, true), U);
            due("mass(1, false)", x.mass(1, false), 0);
            due("mass(1, true)", x.mass(1, true), 0);
        }
        WhisperCrowd y = chain(1, TOP);
        y.send(1, 0);
        y.lose(0);
        y.set(1, -TOP);
        due("leave(1, 0)", y.leave(1, 0), 1);
        due("mass(0, false): the VALUE that was set", y.mass(0, false), U - TOP / 2 * U);
        due("mass(0, true)", y.mass(0, true), U / 2);
    }

    /** Each by each, with a LOST LETTER between the two, so that their BOOKS don't come out. */
    private static void leavingWithBooksOfOthers() {
        for (int way = 0; way < 16; way++) {
            int m = way / 4;
            int t = way % 4;
            if (m == t) continue;
            WhisperCrowd x = web(8, 16, 32, 64);
            x.round(0, 1);
            x.send(m, t);
            x.lose(0);
            x.send(t, m);
            x.bring(0);
            WhisperCrowd y = web(8, 16, 32, 64);
            y.round(0, 1);
            due("leave(" + m + ", " + t + ")", x.leave(m, t), 1);
            for (int other = 0; other < 4; other++) {
                due("book(m, other, false)", x.book(m, other, false), 0);
                due("book(other, m, true)", x.book(other, m, true), 0);
                if (other == m || other == t) continue;
                long ofBoth = y.book(other, t, false) + y.book(other, m, false);
                long ofOther = y.book(t, other, false) + y.book(m, other, false);
                due("book(other, t, false)", x.book(other, t, false), ofBoth);
                due("book(t, other, false)", x.book(t, other, false), ofOther);
                due("mass(other, false)", x.mass(other, false), y.mass(other, false));
            }
            due("book(t, t, false): but of t and m themselves", x.book(t, t, false), 0);
            due("book(t, t, true)", x.book(t, t, true), 0);
            x.fall(t);
            for (int other = 0; other < 4; other++) due("book(other, t, false)", x.book(other, t, false), 0);
        }
    }

    private static void leavingAfterAFall() {
        WhisperCrowd x = web(8, 16, 32, 64);
        x.round(0, 2);
        x.fall(0);
        x.leave(1, 3);
        due("book(0, 3, false), 0 being AWAY", x.book(0, 3, false), 0);
        due("book(3, 0, false)", x.book(3, 0, false), 0);
        x.fall(3);
        due("mass(2, false): as if nobody had been there", x.mass(2, false), 32 * U);
        due("mass(2, true)", x.mass(2, true), U);
    }

    /** What s sent to r, when m has left to t and come back, and then one falls. */
    private static void owedTillOneFalls() {
        for (int way = 0; way < 256; way++) {
            int s = way / 64, r = way / 16 % 4, m = way / 4 % 4, t = way % 4;
            if (s == r || m == t) continue;
            for (int falls = 0; falls < 4; falls++) {
                WhisperCrowd x = web(8, 16, 32, 64);
                long share = x.mass(s, false) / 2;
                x.send(s, r);
                x.lose(0);
                x.leave(m, t);
                due("owed(false)", x.owed(false), share);
                x.back(m, 1);
                x.fall(falls);
                boolean gone = falls == (s == m ? t : s) || falls == (r == m ? t : r);
                String when = s + " to " + r + ", " + m + " having left to " + t + ", " + falls + " fallen";
                due("owed(false) " + when, x.owed(false), gone ? 0 : share);
                due("owed(true) " + when, x.owed(true), gone ? 0 : U / 2);
            }
        }
    }

    private static void owedByOneLeavingAfterAnother() {
        WhisperCrowd x = web(8, 16, 32, 64);
        x.send(0, 1);
        x.lose(0);
        x.leave(0, 2);
        x.leave(2, 3);
        x.back(0, 1);
        x.back(2, 1);
        x.fall(0);
        x.fall(2);
        due("owed(false): those who left don't owe", x.owed(false), 4 * U);
        x.leave(1, 3);
        due("owed(false): 3 owes it to itself", x.owed(false), 4 * U);
        x.back(1, 1);
        x.fall(1);
        due("owed(false)", x.owed(false), 4 * U);
        x.back(1, 1);
        x.leave(3, 1);
        x.back(3, 1);
        x.fall(3);
        due("owed(false): 1 owes it to itself", x.owed(false), 4 * U);
        x.fall(1);
        due("owed(false), 1 having FALLEN", x.owed(false), 0);
        due("owed(true), 1 having FALLEN", x.owed(true), 0);
    }

    // ---- 4 undo, and what is refused

    private static void theLatestTwenty() {
        for (int calls = 0; calls <= 25; calls++) {
            WhisperCrowd x = new WhisperCrowd();
            long[] digests = new long[26];
            for (int i = 0; i < calls; i++) {
                digests[i] = x.digest();
                x.seed(1000 + i);
            }
            int kept = Math.min(calls, 20);
            due("count(5) behind " + calls + " calls", x.count(5), kept);
            for (int i = kept - 1; i >= 0; i--) {
                due("undo() of " + calls + " calls", x.undo(), i);
                due("digest()", x.digest(), digests[calls - kept + i]);
            }
            due("undo(), none being left", x.undo(), NO);
            due("count(6)", x.count(6), calls <= 20 ? 1 : 999 + calls - 20);
            due("seed(5)", x.seed(5), 1);
            due("undo()", x.undo(), 0);
        }
    }

    /** Calls that are refused, or not marked (U), are none that can be taken back. */
    private static void onlyWhatWasNotRefused() {
        WhisperCrowd x = eightLetters();
        int open = x.count(5);
        x.come(TOP + 1);
        x.line(0, 1);
        x.cut(0, 1);
        x.set(0, TOP + 1);
        x.back(0, 0);
        x.fall(3);
        x.leave(0, 1);
        x.talk(0, 0, 2);
        x.send(0, 1);
        x.bring(8);
        x.lose(8);
        x.seed(-1);
        x.draw(0, 0);
        x.round(0, 0);
        x.fewest(3);
        x.digest();
        due("count(5)", x.count(5), open);
        due("undo()", x.undo(), open - 1);
        due("count(3): the latest send() is taken back", x.count(3), 7);
        WhisperCrowd y = new WhisperCrowd();
        y.undo();
        due("count(5): undo() of nothing is no call (U)", y.count(5), 0);
        due("undo()", y.undo(), NO);
    }

    private static void whichRefusalIsFirst() {
        refused(Edges::full, "come(2^30 + 1), ten being there", x -> x.come(TOP + 1), BAD);
        refused(Edges::full, "come(-2^30 - 1), ten being there", x -> x.come(-TOP - 1), BAD);
        refused(Edges::full, "line(9, 9), all LINES being there", x -> x.line(9, 9), BAD);
        refused(Edges::eightLetters, "cut(0, 0)", x -> x.cut(0, 0), BAD);
        refused(Edges::eightLetters, "leave(0, 0)", x -> x.leave(0, 0), BAD);
        refused(Edges::eightLetters, "leave(0, 3)", x -> x.leave(0, 3), BAD);
        refused(Edges::fallen, "leave(0, 1), 1 being AWAY", x -> x.leave(0, 1), BAD);
        refused(Edges::eightLetters, "talk(3, 0, 2) without a LINE", x -> x.talk(3, 0, 2), BAD);
        refused(Edges::eightLetters, "talk(-1, 0, 0)", x -> x.talk(-1, 0, 0), BAD);
        refused(Edges::eightLetters, "send(0, 3), 8 being UNDER WAY", x -> x.send(0, 3), BAD);
        refused(Edges::eightLetters, "send(0, 2) without a LINE, 8 being UNDER WAY", x -> x.send(0, 2), NO);
        refused(Edges::eightLetters, "send(0, 0), 8 being UNDER WAY", x -> x.send(0, 0), NO);
        refused(() -> crowd(1, 2), "draw(3, 1) without a LINE", x -> x.draw(3, 1), BAD);
        refused(() -> crowd(1, 2), "draw(0, 61) without a LINE", x -> x.draw(0, 61), BAD);
        refused(() -> crowd(1, 2), "round(-1, 1) without a LINE", x -> x.round(-1, 1), BAD);
        refused(() -> crowd(1, 2), "round(0, 0) without a LINE", x -> x.round(0, 0), BAD);
        due("about(1, 6), 1 being AWAY", fallen().about(1, 6), BAD);
        due("about(1, -1), 1 being AWAY", fallen().about(1, -1), BAD);
        due("ticket(3, 9)", fallen().ticket(3, 9), BAD);
        due("ticket(1, 9), 1 being AWAY", fallen().ticket(1, 9), NO);
    }

    private static void members() {
        on("MEMBERS 0 .. 9, as they come", TermsEdgeTest::membersAsTheyCome);
        on("has VALUE times UNIT as SUM, a UNIT as WEIGHT", TermsEdgeTest::valueTimesUnit);
        on("there is none if WEIGHT is not above 0", TermsEdgeTest::noGuessUnlessWeightIsAboveNought);
        on("A GUESS is SUM by WEIGHT, as doubles", TermsEdgeTest::guessIsDoubleByDouble);
        on("HALF is the greatest whole not above its half", TermsEdgeTest::halfIsTheGreatestWholeNotAbove);
        on("HALF of a WEIGHT below 0", TermsEdgeTest::halfOfAWeightBelowNought);
        on("a SUM, a long, by FALL", TermsEdgeTest::fallWrapsAround);
        on("a SUM, a long, by EVEN", TermsEdgeTest::evenWrapsAround);
        on("a SUM, a long, by LEAVING", TermsEdgeTest::leavingWrapsAround);
    }

    private static void talks() {
        on("b has the HALVES of these then, a THE RESTS", TermsEdgeTest::evenOfSmallSums);
        on("b has the HALVES of the WEIGHTS then, a THE RESTS", TermsEdgeTest::evenOfOtherWeights);
        on("the greater of the GREATEST, the lesser of the LEAST", TermsEdgeTest::greatestAndLeastThereCanBe);
        on("both know the four least then", TermsEdgeTest::fourLeastTickets);
        on("both know the four least of eight then", TermsEdgeTest::fourAndFourTickets);
        on("of like ones the one of the lesser MEMBER first", TermsEdgeTest::likeTicketsByLesserMember);
        on("that which the asking one knows, if both know one", TermsEdgeTest::ofTwoTicketsTheAskersOne);
        on("each MEMBER's once", TermsEdgeTest::theAskersOneFallsOut);
        on("has HEARD itself alone; TICKETS known elsewhere stay", TermsEdgeTest::whoComesBackOrIsSet);
        on("of which the lowest 31 bits stay", TermsEdgeTest::theSeedsBits);
    }

    private static void booksAndUndo() {
        on("as a LETTER is brought, with the sign turned", TermsEdgeTest::booksOfLetters);
        on("by a LETTER that is sent what is in it", TermsEdgeTest::booksOfLettersByWeight);
        on("All BOOKS of m, and m's, are 0", TermsEdgeTest::fallOfOneWithBooks);
        on("of all LETTERS from or to it none is any more", TermsEdgeTest::fallLeavesLettersOfOthers);
        on("less VALUE times UNIT, less a UNIT", TermsEdgeTest::leavingWithTheExtremeValues);
        on("to each other one's BOOK of t its BOOK of m is added", TermsEdgeTest::leavingWithBooksOfOthers);
        on("All BOOKS of m, and m's, are 0; it is AWAY", TermsEdgeTest::leavingAfterAFall);
        on("till one of these falls", TermsEdgeTest::owedTillOneFalls);
        on("if one leaves to t, t is that one from then on", TermsEdgeTest::owedByOneLeavingAfterAnother);
        on("the latest 20 of them", TermsEdgeTest::theLatestTwenty);
        on("each call marked (U) that is not refused", TermsEdgeTest::onlyWhatWasNotRefused);
        on("of several the first: BAD, NO, FULL", TermsEdgeTest::whichRefusalIsFirst);
    }

    public static void main(String[] args) {
        members();
        talks();
        booksAndUndo();
        end("terms");
    }
}
