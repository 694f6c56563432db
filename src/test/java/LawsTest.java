import java.util.Random;

/**
 * What follows from the document for every crowd, whatever was called: it is looked
 * at behind each call of drawn rows, without a second crowd to compare with.
 */
public final class LawsTest {
    private static final int ROWS = 3000, CALLS = 150;
    private static final int LEAVE = 4;
    private static final long UNIT = 1048576L;

    private static int wrong = 0;

    private final Random random;
    private final int row;
    private final int members;
    private final WhisperCrowd x = new WhisperCrowd();
    private String latest = "";
    private boolean anyLeft = false;

    private LawsTest(int row) {
        this.row = row;
        random = new Random(row);
        members = 2 + random.nextInt(6);
        for (int m = 0; m < members; m++) x.come(random.nextInt(100) - 50);
        for (int m = 0; m < members; m++) {
            for (int other = 0; other < m; other++) {
                if (random.nextInt(3) > 0) x.line(m, other);
            }
        }
    }

    private void law(String words, boolean holds) {
        if (holds) return;
        wrong++;
        System.out.println("row " + row + ", behind " + latest + ", it does not hold that " + words);
    }

    private int call() {
        int a = random.nextInt(members), b = random.nextInt(members), few = random.nextInt(8);
        int way = random.nextInt(24);
        latest = "way " + way + " with " + a + ", " + b + ", " + few;
        anyLeft |= way == LEAVE;
        return switch (way) {
            case 0 -> x.set(a, 9 * few);
            case 1, 2 -> x.back(a, few);
            case 3 -> x.fall(a);
            case LEAVE -> x.leave(a, b);
            case 5, 6, 7 -> x.talk(0, a, b);
            case 8, 9 -> x.talk(1, a, b);
            case 10, 11 -> x.talk(2, a, b);
            case 12, 13, 14, 15 -> x.send(a, b);
            case 16, 17 -> x.bring(few);
            case 18, 19 -> x.lose(few);
            case 20 -> x.line(a, b);
            case 21 -> x.cut(a, b);
            case 22 -> x.round(few % 3, 1);
            default -> x.draw(few % 3, 1 + few);
        };
    }

    /** What nobody has is UNDER WAY or OWED: neither FALL nor LEAVING makes or loses any. */
    private void nothingIsMadeOrLost() {
        long values = 0;
        for (int m = 0; m < members; m++) values += x.about(m, 0) == 1 ? x.about(m, 1) : 0;
        law("all(false) is all VALUES times UNIT", x.all(false) == values * UNIT);
        law("all(true) is a UNIT for each one HERE", x.all(true) == x.count(1) * UNIT);
    }

    /** What one gave and the other has not got is UNDER WAY or OWED. */
    private void booksTellWhatWent() {
        // One that left may owe what it lost on the way to the other, who owes it to itself then: no BOOK tells it.
        if (anyLeft) return;
        for (boolean weight : new boolean[] {false, true}) {
            long open = x.owed(weight);
            for (int i = 0; i < 8; i++) open += x.letter(i, 0) < 0 ? 0 : x.letter(i, weight ? 3 : 2);
            long told = 0;
            for (int a = 0; a < members; a++) {
                for (int b = 0; b < members; b++) told += x.book(a, b, weight);
            }
            law("all BOOKS together tell what is UNDER WAY and OWED", told == open);
        }
    }

    private void whoIsAwayHasNothing(int m) {
        law("one AWAY has no MASS", x.mass(m, false) == 0 && x.mass(m, true) == 0);
        for (int other = 0; other < members; other++) {
            law("one AWAY has no BOOKS", x.book(m, other, false) == 0 && x.book(m, other, true) == 0);
            law("nobody has BOOKS of one AWAY", x.book(other, m, false) == 0 && x.book(other, m, true) == 0);
        }
        for (int i = 0; i < 8; i++) law("no LETTER is from or to one AWAY", x.letter(i, 0) != m && x.letter(i, 1) != m);
    }

    private void whoIsHereKnowsItself(int m) {
        law("one has HEARD itself", (x.about(m, 4) >> m & 1) == 1);
        law("VALUE is within LEAST .. GREATEST", x.about(m, 3) <= x.about(m, 1) && x.about(m, 1) <= x.about(m, 2));
        int known = x.about(m, 5);
        law("one to four TICKETS are known", known >= 1 && known <= 4 && x.ticket(m, known) == WhisperCrowd.NONE);
        for (int i = 1; i < known; i++) law("the least TICKET is first", x.ticket(m, i - 1) <= x.ticket(m, i));
    }

    private void allLaws() {
        nothingIsMadeOrLost();
        booksTellWhatWent();
        for (int m = 0; m < members; m++) {
            if (x.about(m, 0) == 0) whoIsAwayHasNothing(m);
            else whoIsHereKnowsItself(m);
        }
    }

    private void run() {
        for (int i = 0; i < CALLS && wrong == 0; i++) {
            long before = x.digest();
            int open = x.count(5);
            if (call() < 0) {
                law("a refused call changes nothing", x.digest() == before && x.count(5) == open);
                continue;
            }
            law("what was not refused can be taken back", x.count(5) == Math.min(open + 1, 20));
            allLaws();
            if (random.nextInt(4) > 0) continue;
            x.undo();
            law("all is as before by undo()", x.digest() == before);
        }
    }

    public static void main(String[] args) {
        for (int row = 0; row < ROWS && wrong == 0; row++) new LawsTest(row).run();
        System.out.println(wrong == 0 ? "all laws hold" : wrong + " laws do not hold");
        if (wrong != 0) System.exit(1);
    }
}
