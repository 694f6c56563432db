import java.util.ArrayDeque;
import java.util.ArrayList;
import java.util.Arrays;
import java.util.Comparator;
import java.util.Deque;
import java.util.List;
import java.util.Map;
import java.util.TreeMap;

/**
 * The document once more, in its plainest form and with the whole library at
 * hand: what WhisperCrowd answers is compared with what this answers.
 */
final class PlainCrowd {
    private static final int BAD = -1, NO = -2, FULL = -3, NONE = -4;
    private static final long UNIT = 1048576L;

    private record Line(int a, int b) { }

    private record Letter(int from, int to, long sum, long weight) { }

    private static final class Member {
        boolean here;
        int value;
        long sum, weight;
        int greatest, least;
        boolean[] heard = new boolean[10];
        TreeMap<Integer, Integer> tickets = new TreeMap<>(); // by owner

        Member copy() {
            Member m = new Member();
            m.here = here;
            m.value = value;
            m.sum = sum;
            m.weight = weight;
            m.greatest = greatest;
            m.least = least;
            m.heard = heard.clone();
            m.tickets = new TreeMap<>(tickets);
            return m;
        }
    }

    private static final class World {
        List<Member> members = new ArrayList<>();
        List<Line> lines = new ArrayList<>();
        long[][][] book = new long[10][10][2];
        long[][][] owed = new long[10][10][2];
        Letter[] letters = new Letter[8];
        long seed = 1;
        long talks;

        World copy() {
            World w = new World();
            for (Member m : members) w.members.add(m.copy());
            w.lines.addAll(lines);
            for (int i = 0; i < 10; i++) {
                for (int j = 0; j < 10; j++) {
                    w.book[i][j] = book[i][j].clone();
                    w.owed[i][j] = owed[i][j].clone();
                }
            }
            w.letters = letters.clone();
            w.seed = seed;
            w.talks = talks;
            return w;
        }
    }

    private World w = new World();
    private final Deque<World> before = new ArrayDeque<>();
    private List<Integer> plan = List.of();

    private void kept() {
        before.addLast(w.copy());
        if (before.size() > 20) before.removeFirst();
    }

    private boolean known(int m) { return 0 <= m && m < w.members.size(); }
    boolean here(int m) { return known(m) && w.members.get(m).here; }
    private static boolean value(int v) { return -1073741824 <= v && v <= 1073741824; }
    private static Line lineOf(int a, int b) { return new Line(Math.min(a, b), Math.max(a, b)); }
    boolean joined(int a, int b) { return w.lines.contains(lineOf(a, b)); }

    private int drawn() {
        w.seed = (w.seed * 1103515245L + 12345L) % 2147483648L;
        return (int) w.seed;
    }

    private void starts(int m) {
        Member it = w.members.get(m);
        it.greatest = it.value;
        it.least = it.value;
        Arrays.fill(it.heard, false);
        it.heard[m] = true;
    }

    private void comes(int m, int v) {
        Member it = w.members.get(m);
        it.here = true;
        it.value = v;
        it.sum = v * UNIT;
        it.weight = UNIT;
        for (Member other : w.members) other.heard[m] = false;
        starts(m);
        it.tickets.clear();
        it.tickets.put(m, drawn());
    }

    int come(int v) {
        if (!value(v)) return BAD;
        if (w.members.size() == 10) return FULL;
        kept();
        w.members.add(new Member());
        comes(w.members.size() - 1, v);
        return w.members.size() - 1;
    }

    int line(int a, int b) {
        if (!known(a) || !known(b) || a == b) return BAD;
        if (joined(a, b)) return NO;
        kept();
        w.lines.add(lineOf(a, b));
        return w.lines.size();
    }

    int cut(int a, int b) {
        if (!known(a) || !known(b) || a == b) return BAD;
        if (!joined(a, b)) return NO;
        for (Letter l : w.letters) {
            if (l != null && lineOf(l.from, l.to).equals(lineOf(a, b))) return NO;
        }
        kept();
        w.lines.remove(lineOf(a, b));
        return w.lines.size();
    }

    int set(int m, int v) {
        if (!here(m) || !value(v)) return BAD;
        kept();
        Member it = w.members.get(m);
        it.sum += v * UNIT - it.value * UNIT;
        it.value = v;
        for (Member other : w.members) other.heard[m] = false;
        starts(m);
        return 1;
    }

    int back(int m, int v) {
        if (!known(m) || here(m) || !value(v)) return BAD;
        kept();
        comes(m, v);
        return 1;
    }

    private void noBooksOf(int m) {
        for (int i = 0; i < 10; i++) {
            w.book[m][i] = new long[2];
            w.book[i][m] = new long[2];
        }
    }

    int fall(int m) {
        if (!here(m)) return BAD;
        kept();
        int gone = 0;
        for (int i = 0; i < 8; i++) {
            if (w.letters[i] != null && (w.letters[i].from == m || w.letters[i].to == m)) {
                w.letters[i] = null;
                gone++;
            }
        }
        for (int x = 0; x < w.members.size(); x++) {
            if (x != m && here(x)) {
                w.members.get(x).sum += w.book[x][m][0];
                w.members.get(x).weight += w.book[x][m][1];
            }
        }
        noBooksOf(m);
        for (int i = 0; i < 10; i++) {
            w.owed[m][i] = new long[2];
            w.owed[i][m] = new long[2];
        }
        w.members.get(m).here = false;
        return gone;
    }

    int leave(int m, int t) {
        if (!here(m) || !here(t) || m == t) return BAD;
        if (!joined(m, t)) return NO;
        for (Letter l : w.letters) {
            if (l != null && (l.from == m || l.to == m)) return NO;
        }
        kept();
        Member it = w.members.get(m);
        w.members.get(t).sum += it.sum - it.value * UNIT;
        w.members.get(t).weight += it.weight - UNIT;
        for (int x = 0; x < 10; x++) {
            for (int k = 0; k < 2 && x != m && x != t; k++) {
                w.book[x][t][k] += w.book[x][m][k];
                w.book[t][x][k] += w.book[m][x][k];
            }
        }
        noBooksOf(m);
        long[][][] owed = new long[10][10][2];
        for (int i = 0; i < 10; i++) {
            for (int j = 0; j < 10; j++) {
                for (int k = 0; k < 2; k++) {
                    owed[i == m ? t : i][j == m ? t : j][k] += w.owed[i][j][k];
                }
            }
        }
        w.owed = owed;
        it.here = false;
        return 1;
    }

    private void talks(int kind, int a, int b) {
        Member x = w.members.get(a);
        Member y = w.members.get(b);
        w.talks++;
        if (kind == 0) {
            long s = x.sum + y.sum;
            long v = x.weight + y.weight;
            long sh = Math.floorDiv(s, 2L);
            long vh = Math.floorDiv(v, 2L);
            w.book[a][b][0] += sh - y.sum;
            w.book[a][b][1] += vh - y.weight;
            w.book[b][a][0] += s - sh - x.sum;
            w.book[b][a][1] += v - vh - x.weight;
            y.sum = sh;
            y.weight = vh;
            x.sum = s - sh;
            x.weight = v - vh;
        } else if (kind == 1) {
            x.greatest = Math.max(x.greatest, y.greatest);
            y.greatest = x.greatest;
            x.least = Math.min(x.least, y.least);
            y.least = x.least;
            for (int i = 0; i < 10; i++) {
                x.heard[i] |= y.heard[i];
                y.heard[i] = x.heard[i];
            }
        } else {
            TreeMap<Integer, Integer> both = new TreeMap<>(y.tickets);
            both.putAll(x.tickets);
            TreeMap<Integer, Integer> four = new TreeMap<>();
            for (Map.Entry<Integer, Integer> e : sorted(both)) {
                if (four.size() < 4) four.put(e.getKey(), e.getValue());
            }
            x.tickets = four;
            y.tickets = new TreeMap<>(four);
        }
    }

    private static List<Map.Entry<Integer, Integer>> sorted(TreeMap<Integer, Integer> tickets) {
        List<Map.Entry<Integer, Integer>> row = new ArrayList<>(tickets.entrySet());
        row.sort(Map.Entry.<Integer, Integer>comparingByValue().thenComparing(Map.Entry.comparingByKey()));
        return row;
    }

    int talk(int kind, int a, int b) {
        if (kind < 0 || kind > 2 || !here(a) || !here(b)) return BAD;
        if (!joined(a, b)) return NO;
        kept();
        talks(kind, a, b);
        return 1;
    }

    int send(int a, int b) {
        if (!here(a) || !here(b)) return BAD;
        if (!joined(a, b)) return NO;
        int free = Arrays.asList(w.letters).indexOf(null);
        if (free < 0) return FULL;
        kept();
        Member x = w.members.get(a);
        long s = Math.floorDiv(x.sum, 2L);
        long v = Math.floorDiv(x.weight, 2L);
        w.letters[free] = new Letter(a, b, s, v);
        x.sum -= s;
        x.weight -= v;
        w.book[a][b][0] += s;
        w.book[a][b][1] += v;
        return free;
    }

    private boolean underWay(int letter) { return 0 <= letter && letter < 8 && w.letters[letter] != null; }

    int bring(int letter) {
        if (!underWay(letter)) return BAD;
        kept();
        Letter l = w.letters[letter];
        w.letters[letter] = null;
        w.members.get(l.to).sum += l.sum;
        w.members.get(l.to).weight += l.weight;
        w.book[l.to][l.from][0] -= l.sum;
        w.book[l.to][l.from][1] -= l.weight;
        return l.to;
    }

    int lose(int letter) {
        if (!underWay(letter)) return BAD;
        kept();
        Letter l = w.letters[letter];
        w.letters[letter] = null;
        w.owed[l.from][l.to][0] += l.sum;
        w.owed[l.from][l.to][1] += l.weight;
        return l.from;
    }

    int seed(int v) {
        if (v < 0) return BAD;
        kept();
        w.seed = v;
        return 1;
    }

    private List<Line> open() {
        List<Line> open = new ArrayList<>();
        for (Line l : w.lines) {
            if (here(l.a) && here(l.b)) open.add(l);
        }
        open.sort(Comparator.comparingInt(Line::a).thenComparingInt(Line::b));
        return open;
    }

    int draw(int kind, int n) {
        if (kind < 0 || kind > 2 || n < 1 || n > 60) return BAD;
        List<Line> open = open();
        if (open.isEmpty()) return NO;
        kept();
        for (int i = 0; i < n; i++) {
            Line l = open.get(drawn() % open.size());
            if ((drawn() & 1) == 0) talks(kind, l.a, l.b);
            else talks(kind, l.b, l.a);
        }
        return 1;
    }

    int round(int kind, int n) {
        if (kind < 0 || kind > 2 || n < 1 || n > 20) return BAD;
        List<Line> open = open();
        if (open.isEmpty()) return NO;
        kept();
        for (int i = 0; i < n; i++) {
            for (Line l : open) talks(kind, l.a, l.b);
        }
        return 1;
    }

    int fresh() {
        kept();
        int n = 0;
        for (int m = 0; m < w.members.size(); m++) {
            if (!here(m)) continue;
            n++;
            starts(m);
            w.members.get(m).tickets.clear();
            w.members.get(m).tickets.put(m, drawn());
        }
        return n;
    }

    int undo() {
        if (before.isEmpty()) return NO;
        w = before.removeLast();
        return before.size();
    }

    int about(int m, int what) {
        if (!known(m) || what < 0 || what > 5) return BAD;
        if (what == 0) return here(m) ? 1 : 0;
        if (!here(m)) return NO;
        Member it = w.members.get(m);
        return switch (what) {
            case 1 -> it.value;
            case 2 -> it.greatest;
            case 3 -> it.least;
            case 4 -> bits(it.heard);
            default -> it.tickets.size();
        };
    }

    private static int bits(boolean[] heard) {
        int bits = 0;
        for (int i = 0; i < heard.length; i++) {
            if (heard[i]) bits += 1 << i;
        }
        return bits;
    }

    long mass(int m, boolean weight) {
        if (!here(m)) return 0;
        return weight ? w.members.get(m).weight : w.members.get(m).sum;
    }

    private List<Double> guesses() {
        List<Double> all = new ArrayList<>();
        for (int m = 0; m < w.members.size(); m++) {
            if (guess(m) != -1) all.add(Double.longBitsToDouble(guess(m)));
        }
        return all;
    }

    long guess(int m) {
        if (!here(m) || w.members.get(m).weight <= 0) return -1;
        return Double.doubleToLongBits((double) w.members.get(m).sum / (double) w.members.get(m).weight);
    }

    long book(int a, int b, boolean weight) {
        return known(a) && known(b) ? w.book[a][b][weight ? 1 : 0] : 0;
    }

    long letter(int letter, int what) {
        if (!underWay(letter) || what < 0 || what > 3) return -1;
        Letter l = w.letters[letter];
        return new long[] {l.from, l.to, l.sum, l.weight}[what];
    }

    long owed(boolean weight) {
        long all = 0;
        for (long[][] row : w.owed) {
            for (long[] place : row) all += place[weight ? 1 : 0];
        }
        return all;
    }

    long all(boolean weight) {
        long all = owed(weight);
        for (int m = 0; m < w.members.size(); m++) all += mass(m, weight);
        for (Letter l : w.letters) {
            if (l != null) all += weight ? l.weight : l.sum;
        }
        return all;
    }

    long far() {
        List<Double> all = guesses();
        if (all.isEmpty()) return -1;
        double most = all.stream().mapToDouble(x -> x).max().getAsDouble();
        double least = all.stream().mapToDouble(x -> x).min().getAsDouble();
        return Double.doubleToLongBits(most - least);
    }

    int unsure() {
        for (int m = 0; m < w.members.size(); m++) {
            for (int x = 0; here(m) && x < w.members.size(); x++) {
                if (here(x) && !w.members.get(m).heard[x]) return m;
            }
        }
        return NONE;
    }

    long many(int m) {
        if (!here(m)) return -1;
        List<Map.Entry<Integer, Integer>> row = sorted(w.members.get(m).tickets);
        if (row.size() < 4) return Double.doubleToLongBits(row.size());
        return Double.doubleToLongBits(3.0 * 2147483648.0 / (double) row.get(3).getValue());
    }

    int ticket(int m, int i) {
        if (!known(m)) return BAD;
        if (!here(m)) return NO;
        List<Map.Entry<Integer, Integer>> row = sorted(w.members.get(m).tickets);
        return 0 <= i && i < row.size() ? row.get(i).getValue() : NONE;
    }

    private boolean level(long[][] mass) {
        long[] first = null;
        for (int m = 0; m < w.members.size(); m++) {
            if (!here(m)) continue;
            if (first != null && !Arrays.equals(first, mass[m])) return false;
            first = mass[m];
        }
        return true;
    }

    /** Every row of so many talks, one by one, without a shortcut. */
    private List<Integer> levelling(long[][] mass, List<Line> open, int talks) {
        if (talks == 0) return level(mass) ? List.of() : null;
        for (int i = 0; i < open.size(); i++) {
            long[][] then = mass.clone();
            int a = open.get(i).a;
            int b = open.get(i).b;
            long s = mass[a][0] + mass[b][0];
            long v = mass[a][1] + mass[b][1];
            then[b] = new long[] {Math.floorDiv(s, 2L), Math.floorDiv(v, 2L)};
            then[a] = new long[] {s - then[b][0], v - then[b][1]};
            List<Integer> rest = levelling(then, open, talks - 1);
            if (rest != null) {
                List<Integer> row = new ArrayList<>(List.of(i));
                row.addAll(rest);
                return row;
            }
        }
        return null;
    }

    int fewest(int limit) {
        if (limit < 0 || limit > 3) return BAD;
        long[][] mass = new long[w.members.size()][];
        for (int m = 0; m < mass.length; m++) mass[m] = new long[] {mass(m, false), mass(m, true)};
        for (int talks = 0; talks <= limit; talks++) {
            List<Integer> row = levelling(mass, open(), talks);
            if (row != null) {
                plan = row;
                return talks;
            }
        }
        return NONE;
    }

    int plan(int i) { return i >= 0 && i < plan.size() ? plan.get(i) : NONE; }

    int count(int what) {
        int here = 0;
        int letters = 0;
        for (Member m : w.members) here += m.here ? 1 : 0;
        for (Letter l : w.letters) letters += l != null ? 1 : 0;
        return switch (what) {
            case 0 -> w.members.size();
            case 1 -> here;
            case 2 -> w.lines.size();
            case 3 -> letters;
            case 4 -> (int) w.talks;
            case 5 -> before.size();
            case 6 -> (int) w.seed;
            default -> BAD;
        };
    }

    long digest() {
        List<Long> v = new ArrayList<>();
        int n = w.members.size();
        for (int m = 0; m < n; m++) {
            v.add((long) about(m, 0));
            if (!here(m)) continue;
            v.add((long) about(m, 1));
            v.add(mass(m, false));
            v.add(mass(m, true));
            for (int what = 2; what <= 4; what++) v.add((long) about(m, what));
            for (int i = 0; i < about(m, 5); i++) v.add((long) ticket(m, i));
        }
        for (int a = 0; a < n; a++) {
            for (int b = a + 1; b < n; b++) v.add(joined(a, b) ? 1L : 0L);
        }
        for (int a = 0; a < n; a++) {
            for (int b = 0; b < n; b++) {
                v.add(book(a, b, false));
                v.add(book(a, b, true));
            }
        }
        for (int letter = 0; letter < 8; letter++) {
            for (int what = 0; what < 4 && underWay(letter); what++) v.add(letter(letter, what));
        }
        v.add(owed(false));
        v.add(owed(true));
        v.add(w.seed);
        long h = 17;
        for (long each : v) h = 31 * h + each;
        return h;
    }
}
