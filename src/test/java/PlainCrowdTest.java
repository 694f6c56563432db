import java.util.ArrayDeque;
import java.util.Deque;
import java.util.Random;

/**
 * Rows of calls, drawn by a Random of a fixed seed, on a WhisperCrowd and on a
 * PlainCrowd: each answer, and then the digest, has to be the same.
 */
public final class PlainCrowdTest {
    private static final int[] ROWS = {400, 400, 4000};
    private static final int[] CALLS = {512, 512, 24};
    private static final int[] SEEDS = {0, 1, 12345, 2147483647, 662824084};

    private final Random random;
    private final WhisperCrowd x = new WhisperCrowd();
    private final PlainCrowd plain = new PlainCrowd();
    private final Deque<String> latest = new ArrayDeque<>();
    /** 0 wild calls on whatever there is; 1 letters and leavings; 2 small crowds that even out. */
    private final int mood;
    private int a, b;
    private int wrong = 0;

    private PlainCrowdTest(int mood, int row) {
        random = new Random(row);
        this.mood = mood;
    }

    private int value() {
        int way = random.nextInt(mood == 2 ? 40 : 12);
        if (way == 0) return random.nextBoolean() ? 1073741824 : -1073741824;
        if (way == 1) return random.nextBoolean() ? 1073741825 : -1073741825;
        if (way == 2) return random.nextInt(2147483647) - 1073741824;
        return mood == 2 ? 8 * random.nextInt(random.nextInt(2) + 2) : random.nextInt(9) - 4;
    }

    private int seedValue() {
        return random.nextInt(3) == 0 ? random.nextInt() : SEEDS[random.nextInt(SEEDS.length)];
    }

    private int kind() {
        return random.nextInt(25) == 0 ? random.nextInt(6) - 2 : random.nextInt(3);
    }

    private int member() {
        return random.nextInt(40) == 0 ? random.nextInt(14) - 2 : random.nextInt(Math.max(1, x.count(0)));
    }

    private void choosePair() {
        a = member();
        b = member();
    }

    /** Two that can talk, most times, if a few tries find such. */
    private void chooseJoined() {
        choosePair();
        int tries = random.nextInt(10) == 0 ? 0 : 20;
        for (int i = 0; i < tries && !(plain.here(a) && plain.here(b) && plain.joined(a, b)); i++) choosePair();
    }

    private void same(String call, long got, long want) {
        latest.addLast(call + " = " + got);
        if (latest.size() > 12) latest.removeFirst();
        if (got != want) {
            wrong++;
            System.out.println(call + " answered " + got + ", due is " + want + ", after " + latest);
        }
    }

    private void build() {
        int crowd = mood == 1 ? 3 + random.nextInt(8) : 2 + random.nextInt(5);
        for (int i = 0; i < crowd; i++) {
            int v = value();
            same("come(" + v + ")", x.come(v), plain.come(v));
        }
        int lines = mood == 1 ? 3 * crowd : crowd * (2 + random.nextInt(3));
        for (int i = 0; i < lines; i++) {
            choosePair();
            same("line(" + a + ", " + b + ")", x.line(a, b), plain.line(a, b));
        }
    }

    private void change(int way) {
        int v = value();
        choosePair();
        if (way < 6) same("come(" + v + ")", x.come(v), plain.come(v));
        else if (way < 15) same("line(" + a + ", " + b + ")", x.line(a, b), plain.line(a, b));
        else if (way < 19) same("set(" + a + ", " + v + ")", x.set(a, v), plain.set(a, v));
        else if (way < 27) same("back(" + a + ", " + v + ")", x.back(a, v), plain.back(a, v));
        else if (way < 29) same("fall(" + a + ")", x.fall(a), plain.fall(a));
        else if (way < 34) changeAll();
        else if (way < 36) undoSome();
        else changeJoined(way);
    }

    private void changeJoined(int way) {
        int k = kind();
        chooseJoined();
        if (way < 38) same("cut(" + a + ", " + b + ")", x.cut(a, b), plain.cut(a, b));
        else if (way < 42) same("leave(" + a + ", " + b + ")", x.leave(a, b), plain.leave(a, b));
        else if (way < 54) same("talk(" + k + ", " + a + ", " + b + ")", x.talk(k, a, b), plain.talk(k, a, b));
        else changeLetters(way);
    }

    private void changeLetters(int way) {
        int letter = random.nextInt(10) == 0 ? random.nextInt(12) - 2 : random.nextInt(8);
        if (way < 66) same("send(" + a + ", " + b + ")", x.send(a, b), plain.send(a, b));
        else if (way < 72) same("bring(" + letter + ")", x.bring(letter), plain.bring(letter));
        else same("lose(" + letter + ")", x.lose(letter), plain.lose(letter));
    }

    private void changeAll() {
        int k = kind(), v = seedValue();
        int n = random.nextInt(20) == 0 ? random.nextInt(70) - 2 : 1 + random.nextInt(3);
        switch (random.nextInt(6)) {
            case 0, 1 -> same("seed(" + v + ")", x.seed(v), plain.seed(v));
            case 2, 3 -> same("draw(" + k + ", " + n + ")", x.draw(k, n), plain.draw(k, n));
            case 4 -> same("round(" + k + ", " + n + ")", x.round(k, n), plain.round(k, n));
            default -> same("fresh()", x.fresh(), plain.fresh());
        }
    }

    private void undoSome() {
        int times = random.nextInt(12) == 0 ? random.nextInt(24) : 1 + random.nextInt(3);
        for (int i = 0; i < times; i++) same("undo()", x.undo(), plain.undo());
    }

    private void ask(int way) {
        int i = random.nextInt(8) - 2;
        boolean weight = random.nextBoolean();
        choosePair();
        switch (way) {
            case 0 -> same("about(" + a + ", " + i + ")", x.about(a, i), plain.about(a, i));
            case 1 -> same("mass(" + a + ", " + weight + ")", x.mass(a, weight), plain.mass(a, weight));
            case 2 -> same("guess(" + a + ")", x.guess(a), plain.guess(a));
            case 3 -> same("book(" + a + ", " + b + ")", x.book(a, b, weight), plain.book(a, b, weight));
            case 4 -> same("letter(" + i + ", " + (b - 1) + ")", x.letter(i, b - 1), plain.letter(i, b - 1));
            case 5 -> same("owed(" + weight + ")", x.owed(weight), plain.owed(weight));
            case 6 -> same("all(" + weight + ")", x.all(weight), plain.all(weight));
            case 7 -> same("far()", x.far(), plain.far());
            case 8 -> same("unsure()", x.unsure(), plain.unsure());
            case 9 -> same("many(" + a + ")", x.many(a), plain.many(a));
            case 10 -> same("ticket(" + a + ", " + i + ")", x.ticket(a, i), plain.ticket(a, i));
            case 11 -> same("plan(" + i + ")", x.plan(i), plain.plan(i));
            case 12 -> same("count(" + (i + 1) + ")", x.count(i + 1), plain.count(i + 1));
            default -> askFewest();
        }
    }

    /** The plain way tries all rows of talks: three at once only over few lines. */
    private void askFewest() {
        int limit = random.nextInt(mood == 2 ? 4 : 6) - (mood == 2 ? 0 : 1);
        if (limit == 3 && x.count(2) > 14 && random.nextInt(8) > 0) limit = 2;
        same("fewest(" + limit + ")", x.fewest(limit), plain.fewest(limit));
        for (int i = -1; i < 4; i++) same("plan(" + i + ")", x.plan(i), plain.plan(i));
    }

    /** Values set anew, so that there is something to even. */
    private void unsettle() {
        for (int m = 0; m < x.count(0); m++) {
            int v = value();
            same("set(" + m + ", " + v + ")", x.set(m, v), plain.set(m, v));
        }
    }

    private int run() {
        if (mood > 0) build();
        for (int i = 0; i < CALLS[mood] && wrong == 0; i++) {
            if (mood == 2 && i % 6 == 5) unsettle();
            if (random.nextInt(mood == 2 ? 2 : 3) == 0) ask(random.nextInt(mood == 2 ? 20 : 14));
            else change(mood == 0 ? random.nextInt(74) : 15 + random.nextInt(59));
            same("digest()", x.digest(), plain.digest());
        }
        return wrong;
    }

    public static void main(String[] args) {
        int wrong = 0;
        for (int mood = 0; mood < ROWS.length; mood++) {
            for (int row = 0; row < ROWS[mood]; row++) {
                wrong += new PlainCrowdTest(mood, row).run();
            }
        }
        System.out.println(wrong == 0 ? "all answers are as the plain crowd's" : wrong + " rows went wrong");
        if (wrong != 0) System.exit(1);
    }
}
