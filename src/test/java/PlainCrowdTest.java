import java.util.ArrayDeque;
import java.util.Deque;
import java.util.Random;

/**
 * Rows of calls, drawn by a Random of a fixed seed, on a WhisperCrowd and on a
 * PlainCrowd: each answer, and then the digest, has to be the same.
 */
public final class PlainCrowdTest {
    private static final int ROWS = 900;
    private static final int CALLS = 512;
    private static final int[] SEEDS = {0, 1, 12345, 2147483647, 662824084};

    private final Random random;
    private final WhisperCrowd x = new WhisperCrowd();
    private final PlainCrowd plain = new PlainCrowd();
    private final Deque<String> latest = new ArrayDeque<>();
    private final boolean deep;
    private int wrong = 0;

    private PlainCrowdTest(int row) {
        random = new Random(row);
        deep = row % 10 == 0;
    }

    private int member() {
        return random.nextInt(40) == 0 ? random.nextInt(14) - 2 : random.nextInt(Math.max(1, x.count(0)));
    }

    private int value() {
        int way = random.nextInt(12);
        if (way == 0) return random.nextBoolean() ? 1073741824 : -1073741824;
        if (way == 1) return random.nextBoolean() ? 1073741825 : -1073741825;
        if (way == 2) return random.nextInt(2147483647) - 1073741824;
        return random.nextInt(9) - 4;
    }

    private int seedValue() {
        return random.nextInt(3) == 0 ? random.nextInt() : SEEDS[random.nextInt(SEEDS.length)];
    }

    private int kind() {
        return random.nextInt(25) == 0 ? random.nextInt(6) - 2 : random.nextInt(3);
    }

    private void same(String call, long got, long want) {
        latest.addLast(call + " = " + got);
        if (latest.size() > 12) latest.removeFirst();
        if (got != want) {
            wrong++;
            System.out.println(call + " answered " + got + ", due is " + want + ", after " + latest);
        }
    }

    private void change(int way) {
        int a = member(), b = member(), k = kind(), v = value();
        if (way < 6) same("come(" + v + ")", x.come(v), plain.come(v));
        else if (way < 18) same("line(" + a + ", " + b + ")", x.line(a, b), plain.line(a, b));
        else if (way < 21) same("cut(" + a + ", " + b + ")", x.cut(a, b), plain.cut(a, b));
        else if (way < 25) same("set(" + a + ", " + v + ")", x.set(a, v), plain.set(a, v));
        else if (way < 29) same("back(" + a + ", " + v + ")", x.back(a, v), plain.back(a, v));
        else if (way < 32) same("fall(" + a + ")", x.fall(a), plain.fall(a));
        else if (way < 35) same("leave(" + a + ", " + b + ")", x.leave(a, b), plain.leave(a, b));
        else if (way < 48) same("talk(" + k + ", " + a + ", " + b + ")", x.talk(k, a, b), plain.talk(k, a, b));
        else if (way < 60) same("send(" + a + ", " + b + ")", x.send(a, b), plain.send(a, b));
        else changeMore(way, k);
    }

    private void changeMore(int way, int k) {
        int letter = random.nextInt(12) - 2, n = random.nextInt(40) == 0 ? random.nextInt(70) - 2 : 1 + random.nextInt(3);
        if (way < 66) same("bring(" + letter + ")", x.bring(letter), plain.bring(letter));
        else if (way < 70) same("lose(" + letter + ")", x.lose(letter), plain.lose(letter));
        else if (way < 73) {
            int v = seedValue();
            same("seed(" + v + ")", x.seed(v), plain.seed(v));
        } else if (way < 76) same("draw(" + k + ", " + n + ")", x.draw(k, n), plain.draw(k, n));
        else if (way < 78) same("round(" + k + ", " + n + ")", x.round(k, n), plain.round(k, n));
        else if (way < 79) same("fresh()", x.fresh(), plain.fresh());
        else undoSome();
    }

    private void undoSome() {
        int times = random.nextInt(12) == 0 ? random.nextInt(24) : random.nextInt(3);
        for (int i = 0; i < times; i++) same("undo()", x.undo(), plain.undo());
    }

    private void ask(int way) {
        int a = member(), b = member(), i = random.nextInt(8) - 2;
        boolean weight = random.nextBoolean();
        switch (way) {
            case 0 -> same("about(" + a + ", " + i + ")", x.about(a, i), plain.about(a, i));
            case 1 -> same("mass(" + a + ", " + weight + ")", x.mass(a, weight), plain.mass(a, weight));
            case 2 -> same("guess(" + a + ")", x.guess(a), plain.guess(a));
            case 3 -> same("book(" + a + ", " + b + ")", x.book(a, b, weight), plain.book(a, b, weight));
            case 4 -> same("letter(" + i + ", " + b + ")", x.letter(i, b), plain.letter(i, b));
            case 5 -> same("owed(" + weight + ")", x.owed(weight), plain.owed(weight));
            case 6 -> same("all(" + weight + ")", x.all(weight), plain.all(weight));
            case 7 -> same("far()", x.far(), plain.far());
            case 8 -> same("unsure()", x.unsure(), plain.unsure());
            case 9 -> same("many(" + a + ")", x.many(a), plain.many(a));
            case 10 -> same("ticket(" + a + ", " + i + ")", x.ticket(a, i), plain.ticket(a, i));
            case 11 -> askFewest();
            case 12 -> same("plan(" + i + ")", x.plan(i), plain.plan(i));
            default -> same("count(" + (i + 1) + ")", x.count(i + 1), plain.count(i + 1));
        }
    }

    private void askFewest() {
        int limit = random.nextInt(6) - 1;
        if (limit == 3 && x.count(2) > 14 && !deep) limit = 2;
        same("fewest(" + limit + ")", x.fewest(limit), plain.fewest(limit));
        for (int i = -1; i < 4; i++) same("plan(" + i + ")", x.plan(i), plain.plan(i));
    }

    private int run() {
        for (int i = 0; i < CALLS && wrong == 0; i++) {
            if (random.nextInt(3) == 0) ask(random.nextInt(14));
            else change(random.nextInt(82));
            same("digest()", x.digest(), plain.digest());
        }
        return wrong;
    }

    public static void main(String[] args) {
        int wrong = 0;
        for (int row = 0; row < ROWS; row++) {
            wrong += new PlainCrowdTest(row).run();
        }
        System.out.println(wrong == 0 ? "all answers are as the plain crowd's" : wrong + " rows went wrong");
        if (wrong != 0) System.exit(1);
    }
}
