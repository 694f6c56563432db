/**
 * A crowd that talks two by two till each knows what all have. The numbered
 * promises of ../shared/DOC.md say what each call does and answers.
 */
public final class WhisperCrowd {
    public static final int BAD = -1, NO = -2, FULL = -3, NONE = -4;

    private static final int MOST_MEMBERS = 10;
    private static final int MOST_PAIRS = MOST_MEMBERS * MOST_MEMBERS;
    private static final int MOST_LINES = MOST_MEMBERS * (MOST_MEMBERS - 1) / 2;
    private static final int MOST_LETTERS = 8;
    private static final int MOST_TICKETS = 4;
    private static final int MOST_UNDOS = 20;
    private static final int MOST_PLANNED = 3;
    private static final int MOST_DRAWN = 60;
    private static final int MOST_ROUNDS = 20;

    private static final int EVEN = 0;
    private static final int GREAT = 1;
    private static final int COUNT = 2;

    private static final int WIDEST_VALUE = 1 << 30;
    private static final long UNIT = 1L << 20;
    private static final long INFINITE_BITS = 2047L << 52;

    private final State now;
    private final History history;
    private final Lines open;
    private final Search search;
    private final int[] planned;
    private int plannedTalks;

    public WhisperCrowd() {
        now = new State();
        history = new History();
        open = new Lines();
        search = new Search();
        planned = new int[MOST_PLANNED];
        plannedTalks = 0;
    }

    // ---- who comes, goes, and is joined

    public int come(int value) {
        if (!isValue(value)) {
            return BAD;
        }
        if (now.members >= MOST_MEMBERS) {
            return FULL;
        }
        history.keep(now);
        int member = now.members;
        now.members = member + 1;
        now.arrive(member, value);
        return member;
    }

    public int line(int a, int b) {
        if (!areTwo(a, b)) {
            return BAD;
        }
        if (now.isJoined(a, b)) {
            return NO;
        }
        history.keep(now);
        now.join(a, b);
        return now.lineCount();
    }

    public int cut(int a, int b) {
        if (!areTwo(a, b)) {
            return BAD;
        }
        if (!now.isJoined(a, b) || now.letters.anyOver(a, b)) {
            return NO;
        }
        history.keep(now);
        now.part(a, b);
        return now.lineCount();
    }

    public int set(int member, int value) {
        if (!isHere(member) || !isValue(value)) {
            return BAD;
        }
        history.keep(now);
        now.revalue(member, value);
        return 1;
    }

    public int back(int member, int value) {
        if (!isMember(member) || now.isHere(member) || !isValue(value)) {
            return BAD;
        }
        history.keep(now);
        now.arrive(member, value);
        return 1;
    }

    public int fall(int member) {
        if (!isHere(member)) {
            return BAD;
        }
        history.keep(now);
        return now.strike(member);
    }

    public int leave(int member, int to) {
        if (!isHere(member) || !isHere(to) || member == to) {
            return BAD;
        }
        if (!now.isJoined(member, to) || now.letters.countOf(member) > 0) {
            return NO;
        }
        history.keep(now);
        now.handOver(member, to);
        return 1;
    }

    // ---- talks and letters

    public int talk(int kind, int a, int b) {
        if (!isKind(kind) || !isHere(a) || !isHere(b)) {
            return BAD;
        }
        if (!now.isJoined(a, b)) {
            return NO;
        }
        history.keep(now);
        now.converse(kind, a, b);
        return 1;
    }

    public int send(int a, int b) {
        if (!isHere(a) || !isHere(b)) {
            return BAD;
        }
        if (!now.isJoined(a, b)) {
            return NO;
        }
        int letter = now.letters.firstFree();
        if (letter >= MOST_LETTERS) {
            return FULL;
        }
        history.keep(now);
        now.post(letter, a, b);
        return letter;
    }

    public int bring(int letter) {
        if (!now.letters.isUnderWay(letter)) {
            return BAD;
        }
        history.keep(now);
        int to = now.letters.to[letter];
        now.deliver(letter);
        return to;
    }

    public int lose(int letter) {
        if (!now.letters.isUnderWay(letter)) {
            return BAD;
        }
        history.keep(now);
        int from = now.letters.from[letter];
        now.mislay(letter);
        return from;
    }

    public int seed(int v) {
        if (v < 0) {
            return BAD;
        }
        history.keep(now);
        now.seed = v;
        return 1;
    }

    public int draw(int kind, int n) {
        if (!isKind(kind) || n < 1 || n > MOST_DRAWN) {
            return BAD;
        }
        open.listOf(now);
        if (open.size <= 0) {
            return NO;
        }
        history.keep(now);
        for (int i = 0; i < n; i++) {
            converseByTheSeed(kind);
        }
        return 1;
    }

    public int round(int kind, int n) {
        if (!isKind(kind) || n < 1 || n > MOST_ROUNDS) {
            return BAD;
        }
        open.listOf(now);
        if (open.size <= 0) {
            return NO;
        }
        history.keep(now);
        for (int i = 0; i < n; i++) {
            converseOverAll(kind);
        }
        return 1;
    }

    public int fresh() {
        history.keep(now);
        for (int member = 0; member < now.members; member++) {
            if (now.isHere(member)) {
                now.knowItselfAlone(member);
                now.tickets.knowAlone(member, now.nextDrawn());
            }
        }
        return now.hereCount();
    }

    public int undo() {
        return history.restore(now) ? history.size : NO;
    }

    // ---- what is asked of the crowd

    public int about(int member, int what) {
        if (!isMember(member) || what < 0 || what > 5) {
            return BAD;
        }
        if (what == 0) {
            return now.isHere(member) ? 1 : 0;
        }
        if (!now.isHere(member)) {
            return NO;
        }
        switch (what) {
            case 1:
                return now.values[member];
            case 2:
                return now.greatest[member];
            case 3:
                return now.least[member];
            case 4:
                return now.heard[member];
            default:
                return now.tickets.known[member];
        }
    }

    public long mass(int member, boolean weight) {
        return isHere(member) ? now.masses.at(member, weight) : 0L;
    }

    public long guess(int member) {
        return hasGuess(member) ? bitsOf(guessOf(member)) : -1L;
    }

    public long book(int a, int b, boolean weight) {
        return isMember(a) && isMember(b) ? now.books.at(pair(a, b), weight) : 0L;
    }

    public long letter(int letter, int what) {
        if (!now.letters.isUnderWay(letter)) {
            return -1L;
        }
        switch (what) {
            case 0:
                return now.letters.from[letter];
            case 1:
                return now.letters.to[letter];
            case 2:
                return now.letters.contents.at(letter, false);
            case 3:
                return now.letters.contents.at(letter, true);
            default:
                return -1L;
        }
    }

    public long owed(boolean weight) {
        return now.owed.total(weight);
    }

    public long all(boolean weight) {
        return now.masses.total(weight) + now.letters.contents.total(weight) + now.owed.total(weight);
    }

    public long far() {
        boolean any = false;
        double greatest = 0.0;
        double least = 0.0;
        for (int member = 0; member < now.members; member++) {
            if (hasGuess(member)) {
                double guess = guessOf(member);
                greatest = !any || guess > greatest ? guess : greatest;
                least = !any || guess < least ? guess : least;
                any = true;
            }
        }
        return any ? bitsOf(greatest - least) : -1L;
    }

    public int unsure() {
        for (int member = 0; member < now.members; member++) {
            if (now.isHere(member) && (now.here & ~now.heard[member]) != 0) {
                return member;
            }
        }
        return NONE;
    }

    public long many(int member) {
        if (!isHere(member)) {
            return -1L;
        }
        int known = now.tickets.known[member];
        if (known < MOST_TICKETS) {
            return bitsOf((double) known);
        }
        int greatest = now.tickets.numberAt(member, MOST_TICKETS - 1);
        return greatest == 0 ? INFINITE_BITS : bitsOf(3.0 * 2147483648.0 / (double) greatest);
    }

    public int ticket(int member, int i) {
        if (!isMember(member)) {
            return BAD;
        }
        if (!now.isHere(member)) {
            return NO;
        }
        return i >= 0 && i < now.tickets.known[member] ? now.tickets.numberAt(member, i) : NONE;
    }

    public int fewest(int limit) {
        if (limit < 0 || limit > MOST_PLANNED) {
            return BAD;
        }
        open.listOf(now);
        search.start(now, open);
        for (int talks = 0; talks <= limit; talks++) {
            if (search.finds(talks)) {
                System.arraycopy(search.row, 0, planned, 0, talks);
                plannedTalks = talks;
                return talks;
            }
        }
        return NONE;
    }

    public int plan(int i) {
        return i >= 0 && i < plannedTalks ? planned[i] : NONE;
    }

    public int count(int what) {
        switch (what) {
            case 0:
                return now.members;
            case 1:
                return now.hereCount();
            case 2:
                return now.lineCount();
            case 3:
                return now.letters.underWayCount();
            case 4:
                return now.talks;
            case 5:
                return history.size;
            case 6:
                return now.seed;
            default:
                return BAD;
        }
    }

    public long digest() {
        long h = 17L;
        for (int member = 0; member < now.members; member++) {
            h = digestOfMember(h, member);
        }
        h = digestOfLines(h);
        h = digestOfBooks(h);
        h = digestOfLetters(h);
        h = mixed(h, now.owed.total(false));
        h = mixed(h, now.owed.total(true));
        return mixed(h, now.seed);
    }

    // ---- parts of the calls above

    private static boolean isValue(int value) {
        return value >= -WIDEST_VALUE && value <= WIDEST_VALUE;
    }

    private static boolean isKind(int kind) {
        return kind == EVEN || kind == GREAT || kind == COUNT;
    }

    private static int pair(int a, int b) {
        return a * MOST_MEMBERS + b;
    }

    private boolean isMember(int member) {
        return member >= 0 && member < now.members;
    }

    private boolean areTwo(int a, int b) {
        return isMember(a) && isMember(b) && a != b;
    }

    private boolean isHere(int member) {
        return isMember(member) && now.isHere(member);
    }

    private void converseByTheSeed(int kind) {
        if (open.size <= 0) {
            return;
        }
        int chosen = now.nextDrawn() % open.size;
        boolean lesserAsks = now.nextDrawn() % 2 == 0;
        int lesser = open.lesser[chosen];
        int other = open.other[chosen];
        if (lesserAsks) {
            now.converse(kind, lesser, other);
        } else {
            now.converse(kind, other, lesser);
        }
    }

    private void converseOverAll(int kind) {
        for (int i = 0; i < open.size; i++) {
            now.converse(kind, open.lesser[i], open.other[i]);
        }
    }

    private boolean hasGuess(int member) {
        return isHere(member) && now.masses.at(member, true) > 0L;
    }

    private double guessOf(int member) {
        return (double) now.masses.at(member, false) / (double) now.masses.at(member, true);
    }

    /**
     * What Double.doubleToLongBits tells, which the rules of the language leave
     * out. No double here is subnormal, infinite, or a zero with a minus: a guess
     * is a long by a long above 0, and a long is never a zero with a minus.
     */
    private static long bitsOf(double x) {
        if (x == 0.0) {
            return 0L;
        }
        double part = x < 0.0 ? -x : x;
        int power = 0;
        while (part >= 2.0 && power < 1023) {
            part = part * 0.5;
            power++;
        }
        while (part < 1.0 && power > -1022) {
            part = part * 2.0;
            power--;
        }
        long bits = (long) (power + 1023) << 52;
        bits = bits + (long) ((part - 1.0) * 4503599627370496.0);
        return x < 0.0 ? bits | 1L << 63 : bits;
    }

    private static long mixed(long h, long v) {
        return 31L * h + v;
    }

    private long digestOfMember(long before, int member) {
        if (!now.isHere(member)) {
            return mixed(before, 0L);
        }
        long h = mixed(before, 1L);
        h = mixed(h, now.values[member]);
        h = mixed(h, now.masses.at(member, false));
        h = mixed(h, now.masses.at(member, true));
        h = mixed(h, now.greatest[member]);
        h = mixed(h, now.least[member]);
        h = mixed(h, now.heard[member]);
        for (int i = 0; i < now.tickets.known[member]; i++) {
            h = mixed(h, now.tickets.numberAt(member, i));
        }
        return h;
    }

    private long digestOfLines(long before) {
        long h = before;
        for (int a = 0; a < now.members; a++) {
            for (int b = a + 1; b < now.members; b++) {
                h = mixed(h, now.isJoined(a, b) ? 1L : 0L);
            }
        }
        return h;
    }

    private long digestOfBooks(long before) {
        long h = before;
        for (int a = 0; a < now.members; a++) {
            for (int b = 0; b < now.members; b++) {
                h = mixed(h, now.books.at(pair(a, b), false));
                h = mixed(h, now.books.at(pair(a, b), true));
            }
        }
        return h;
    }

    private long digestOfLetters(long before) {
        long h = before;
        for (int letter = 0; letter < MOST_LETTERS; letter++) {
            if (now.letters.isUnderWay(letter)) {
                h = mixed(h, now.letters.from[letter]);
                h = mixed(h, now.letters.to[letter]);
                h = mixed(h, now.letters.contents.at(letter, false));
                h = mixed(h, now.letters.contents.at(letter, true));
            }
        }
        return h;
    }

    /** Sums with their weights: one never moves without the other. */
    private static final class Masses {
        final long[] sums;
        final long[] weights;

        Masses(int places) {
            int size = places > 0 ? places : 0;
            sums = new long[size];
            weights = new long[size];
        }

        long at(int place, boolean weight) {
            return weight ? weights[place] : sums[place];
        }

        void put(int place, long sum, long weight) {
            sums[place] = sum;
            weights[place] = weight;
        }

        void add(int place, long sum, long weight) {
            sums[place] += sum;
            weights[place] += weight;
        }

        void addFrom(int place, Masses source, int from) {
            add(place, source.sums[from], source.weights[from]);
        }

        void even(int asker, int other) {
            long sum = sums[asker] + sums[other];
            long weight = weights[asker] + weights[other];
            put(other, sum >> 1, weight >> 1);
            put(asker, sum - sums[other], weight - weights[other]);
        }

        void move(int from, int place) {
            addFrom(place, this, from);
            put(from, 0L, 0L);
        }

        long total(boolean weight) {
            long[] row = weight ? weights : sums;
            long total = 0L;
            for (int i = 0; i < row.length; i++) {
                total += row[i];
            }
            return total;
        }

        /** Both are made for the same number of places. */
        void copyFrom(Masses source) {
            System.arraycopy(source.sums, 0, sums, 0, sums.length);
            System.arraycopy(source.weights, 0, weights, 0, weights.length);
        }
    }

    /** The tickets that each one knows, by number, of like ones by owner. */
    private static final class Tickets {
        // One row beyond the members', to put the tickets of two together in.
        private static final int TOGETHER = MOST_MEMBERS;

        final int[] known = new int[MOST_MEMBERS + 1];
        final int[] numbers = new int[(MOST_MEMBERS + 1) * MOST_TICKETS];
        final int[] owners = new int[(MOST_MEMBERS + 1) * MOST_TICKETS];

        int numberAt(int row, int i) {
            return numbers[row * MOST_TICKETS + i];
        }

        void knowAlone(int member, int number) {
            known[member] = 0;
            insert(member, number, member);
        }

        void share(int asker, int other) {
            known[TOGETHER] = 0;
            for (int i = 0; i < known[asker]; i++) {
                insertFrom(asker, i);
            }
            for (int i = 0; i < known[other]; i++) {
                if (!knowsOneOf(asker, owners[other * MOST_TICKETS + i])) {
                    insertFrom(other, i);
                }
            }
            take(asker);
            take(other);
        }

        void copyFrom(Tickets source) {
            System.arraycopy(source.known, 0, known, 0, known.length);
            System.arraycopy(source.numbers, 0, numbers, 0, numbers.length);
            System.arraycopy(source.owners, 0, owners, 0, owners.length);
        }

        private boolean knowsOneOf(int row, int owner) {
            for (int i = 0; i < known[row]; i++) {
                if (owners[row * MOST_TICKETS + i] == owner) {
                    return true;
                }
            }
            return false;
        }

        private void insertFrom(int row, int i) {
            int place = row * MOST_TICKETS + i;
            insert(TOGETHER, numbers[place], owners[place]);
        }

        private void insert(int row, int number, int owner) {
            int start = row * MOST_TICKETS;
            int i = known[row];
            if (i < MOST_TICKETS) {
                known[row] = i + 1;
            } else if (isBefore(number, owner, start + MOST_TICKETS - 1)) {
                i = MOST_TICKETS - 1;
            } else {
                return;
            }
            while (i > 0 && isBefore(number, owner, start + i - 1)) {
                numbers[start + i] = numbers[start + i - 1];
                owners[start + i] = owners[start + i - 1];
                i--;
            }
            numbers[start + i] = number;
            owners[start + i] = owner;
        }

        private boolean isBefore(int number, int owner, int place) {
            return number < numbers[place] || number == numbers[place] && owner < owners[place];
        }

        private void take(int member) {
            known[member] = known[TOGETHER];
            int from = TOGETHER * MOST_TICKETS;
            System.arraycopy(numbers, from, numbers, member * MOST_TICKETS, MOST_TICKETS);
            System.arraycopy(owners, from, owners, member * MOST_TICKETS, MOST_TICKETS);
        }
    }

    /** The letters under way; one that is none has nobody as sender, and nothing in it. */
    private static final class Letters {
        private static final int NOBODY = -1;

        final int[] from = new int[MOST_LETTERS];
        final int[] to = new int[MOST_LETTERS];
        final Masses contents = new Masses(MOST_LETTERS);

        Letters() {
            for (int letter = 0; letter < MOST_LETTERS; letter++) {
                from[letter] = NOBODY;
                to[letter] = NOBODY;
            }
        }

        boolean isUnderWay(int letter) {
            return letter >= 0 && letter < MOST_LETTERS && from[letter] != NOBODY;
        }

        /** The least letter that is none under way; MOST_LETTERS if all are. */
        int firstFree() {
            int letter = 0;
            while (letter < MOST_LETTERS && isUnderWay(letter)) {
                letter++;
            }
            return letter;
        }

        int underWayCount() {
            int count = 0;
            for (int letter = 0; letter < MOST_LETTERS; letter++) {
                count += isUnderWay(letter) ? 1 : 0;
            }
            return count;
        }

        int countOf(int member) {
            int count = 0;
            for (int letter = 0; letter < MOST_LETTERS; letter++) {
                count += isOf(letter, member) ? 1 : 0;
            }
            return count;
        }

        boolean anyOver(int a, int b) {
            for (int letter = 0; letter < MOST_LETTERS; letter++) {
                if (isOf(letter, a) && isOf(letter, b)) {
                    return true;
                }
            }
            return false;
        }

        void write(int letter, int sender, int receiver, long sum, long weight) {
            from[letter] = sender;
            to[letter] = receiver;
            contents.put(letter, sum, weight);
        }

        void drop(int letter) {
            write(letter, NOBODY, NOBODY, 0L, 0L);
        }

        void dropAllOf(int member) {
            for (int letter = 0; letter < MOST_LETTERS; letter++) {
                if (isOf(letter, member)) {
                    drop(letter);
                }
            }
        }

        void copyFrom(Letters source) {
            System.arraycopy(source.from, 0, from, 0, MOST_LETTERS);
            System.arraycopy(source.to, 0, to, 0, MOST_LETTERS);
            contents.copyFrom(source.contents);
        }

        private boolean isOf(int letter, int member) {
            return isUnderWay(letter) && (from[letter] == member || to[letter] == member);
        }
    }

    /** All that a call can change and undo() brings back. */
    private static final class State {
        int members = 0;
        int here = 0;
        int seed = 1;
        int talks = 0;
        final int[] values = new int[MOST_MEMBERS];
        final int[] greatest = new int[MOST_MEMBERS];
        final int[] least = new int[MOST_MEMBERS];
        final int[] heard = new int[MOST_MEMBERS];
        final int[] joined = new int[MOST_MEMBERS];
        final Tickets tickets = new Tickets();
        final Masses masses = new Masses(MOST_MEMBERS);
        final Masses books = new Masses(MOST_PAIRS);
        final Masses owed = new Masses(MOST_PAIRS);
        final Letters letters = new Letters();

        void copyFrom(State source) {
            members = source.members;
            here = source.here;
            seed = source.seed;
            talks = source.talks;
            System.arraycopy(source.values, 0, values, 0, MOST_MEMBERS);
            System.arraycopy(source.greatest, 0, greatest, 0, MOST_MEMBERS);
            System.arraycopy(source.least, 0, least, 0, MOST_MEMBERS);
            System.arraycopy(source.heard, 0, heard, 0, MOST_MEMBERS);
            System.arraycopy(source.joined, 0, joined, 0, MOST_MEMBERS);
            tickets.copyFrom(source.tickets);
            masses.copyFrom(source.masses);
            books.copyFrom(source.books);
            owed.copyFrom(source.owed);
            letters.copyFrom(source.letters);
        }

        boolean isHere(int member) {
            return (here >> member & 1) != 0;
        }

        int hereCount() {
            return Integer.bitCount(here);
        }

        boolean isJoined(int a, int b) {
            return (joined[a] >> b & 1) != 0;
        }

        void join(int a, int b) {
            joined[a] |= 1 << b;
            joined[b] |= 1 << a;
        }

        void part(int a, int b) {
            joined[a] &= ~(1 << b);
            joined[b] &= ~(1 << a);
        }

        int lineCount() {
            int ends = 0;
            for (int member = 0; member < members; member++) {
                ends += Integer.bitCount(joined[member]);
            }
            return ends / 2;
        }

        int nextDrawn() {
            seed = seed * 1103515245 + 12345 & 0x7fffffff;
            return seed;
        }

        void arrive(int member, int value) {
            here |= 1 << member;
            values[member] = value;
            masses.put(member, value * UNIT, UNIT);
            hearNews(member);
            tickets.knowAlone(member, nextDrawn());
        }

        void revalue(int member, int value) {
            masses.add(member, ((long) value - values[member]) * UNIT, 0L);
            values[member] = value;
            hearNews(member);
        }

        void knowItselfAlone(int member) {
            greatest[member] = values[member];
            least[member] = values[member];
            heard[member] = 1 << member;
        }

        /** What others have heard of one is worth nothing once its value is another. */
        private void hearNews(int member) {
            for (int other = 0; other < members; other++) {
                heard[other] &= ~(1 << member);
            }
            knowItselfAlone(member);
        }

        /** What falls takes its letters along; the books give the others back what it had of them. */
        int strike(int member) {
            int lettersGone = letters.countOf(member);
            letters.dropAllOf(member);
            for (int other = 0; other < members; other++) {
                if (other != member && isHere(other)) {
                    masses.addFrom(other, books, pair(other, member));
                }
            }
            forget(books, member);
            forget(owed, member);
            depart(member);
            return lettersGone;
        }

        void handOver(int member, int to) {
            masses.addFrom(to, masses, member);
            masses.add(to, -(values[member] * UNIT), -UNIT);
            for (int other = 0; other < members; other++) {
                if (other != member && other != to) {
                    books.addFrom(pair(other, to), books, pair(other, member));
                    books.addFrom(pair(to, other), books, pair(member, other));
                }
            }
            forget(books, member);
            passOnOwed(member, to);
            depart(member);
        }

        private void passOnOwed(int member, int to) {
            for (int other = 0; other < members; other++) {
                owed.move(pair(member, other), pair(to, other));
            }
            for (int other = 0; other < members; other++) {
                owed.move(pair(other, member), pair(other, to));
            }
        }

        private void forget(Masses pairs, int member) {
            for (int other = 0; other < members; other++) {
                pairs.put(pair(member, other), 0L, 0L);
                pairs.put(pair(other, member), 0L, 0L);
            }
        }

        private void depart(int member) {
            here &= ~(1 << member);
            masses.put(member, 0L, 0L);
        }

        void converse(int kind, int asker, int other) {
            talks++;
            switch (kind) {
                case EVEN:
                    evenByBooks(asker, other);
                    break;
                case GREAT:
                    shareGreatest(asker, other);
                    break;
                default:
                    tickets.share(asker, other);
                    break;
            }
        }

        private void evenByBooks(int asker, int other) {
            long askerSum = masses.sums[asker];
            long askerWeight = masses.weights[asker];
            long otherSum = masses.sums[other];
            long otherWeight = masses.weights[other];
            masses.even(asker, other);
            books.add(pair(asker, other), masses.sums[other] - otherSum, masses.weights[other] - otherWeight);
            books.add(pair(other, asker), masses.sums[asker] - askerSum, masses.weights[asker] - askerWeight);
        }

        private void shareGreatest(int asker, int other) {
            int greater = Math.max(greatest[asker], greatest[other]);
            int lesser = Math.min(least[asker], least[other]);
            int both = heard[asker] | heard[other];
            greatest[asker] = greater;
            greatest[other] = greater;
            least[asker] = lesser;
            least[other] = lesser;
            heard[asker] = both;
            heard[other] = both;
        }

        void post(int letter, int from, int to) {
            long sum = masses.sums[from] >> 1;
            long weight = masses.weights[from] >> 1;
            masses.add(from, -sum, -weight);
            books.add(pair(from, to), sum, weight);
            letters.write(letter, from, to, sum, weight);
        }

        void deliver(int letter) {
            int from = letters.from[letter];
            int to = letters.to[letter];
            long sum = letters.contents.at(letter, false);
            long weight = letters.contents.at(letter, true);
            masses.add(to, sum, weight);
            books.add(pair(to, from), -sum, -weight);
            letters.drop(letter);
        }

        void mislay(int letter) {
            int place = pair(letters.from[letter], letters.to[letter]);
            owed.addFrom(place, letters.contents, letter);
            letters.drop(letter);
        }
    }

    /** The lines that join two who are here, in the order that draw() numbers them. */
    private static final class Lines {
        final int[] lesser = new int[MOST_LINES];
        final int[] other = new int[MOST_LINES];
        int size = 0;

        void listOf(State state) {
            size = 0;
            for (int a = 0; a < state.members; a++) {
                for (int b = a + 1; b < state.members; b++) {
                    if (state.isJoined(a, b) && state.isHere(a) && state.isHere(b)) {
                        add(a, b);
                    }
                }
            }
        }

        private void add(int a, int b) {
            if (size < MOST_LINES) {
                lesser[size] = a;
                other[size] = b;
                size++;
            }
        }
    }

    /** The states before the latest calls that can be taken back, in a ring. */
    private static final class History {
        final State[] kept = new State[MOST_UNDOS];
        int next = 0;
        int size = 0;

        void keep(State state) {
            State slot = kept[next];
            if (slot == null) {
                slot = new State();
                kept[next] = slot;
            }
            slot.copyFrom(state);
            next = (next + 1) % MOST_UNDOS;
            size = size < MOST_UNDOS ? size + 1 : size;
        }

        boolean restore(State state) {
            int latest = (next + MOST_UNDOS - 1) % MOST_UNDOS;
            State slot = kept[latest];
            if (size <= 0 || slot == null) {
                return false;
            }
            state.copyFrom(slot);
            next = latest;
            size--;
            return true;
        }
    }

    /** Looks for a row of even talks behind which all have alike, on copies of the masses. */
    private static final class Search {
        final Masses masses = new Masses(MOST_MEMBERS);
        final int[] crowd = new int[MOST_MEMBERS];
        final int[] row = new int[MOST_PLANNED];
        int crowdSize = 0;
        Lines lines = null;

        void start(State state, Lines open) {
            lines = open;
            masses.copyFrom(state.masses);
            crowdSize = 0;
            for (int member = 0; member < state.members; member++) {
                if (state.isHere(member)) {
                    crowd[crowdSize] = member;
                    crowdSize++;
                }
            }
        }

        /** Whether so many talks are enough: the row is theirs then. */
        boolean finds(int talks) {
            return talks >= 0 && talks <= MOST_PLANNED && evensOut(0, talks);
        }

        /** The lines are tried in their order, so that the first row found is the first of all. */
        private boolean evensOut(int depth, int talks) {
            if (depth >= talks || depth >= MOST_PLANNED) {
                return isNear(0);
            }
            if (lines == null || !isNear(talks - depth)) {
                return false;
            }
            for (int i = 0; i < lines.size; i++) {
                row[depth] = i;
                if (evensOutOver(lines.lesser[i], lines.other[i], depth, talks)) {
                    return true;
                }
            }
            return false;
        }

        private boolean evensOutOver(int asker, int other, int depth, int talks) {
            long askerSum = masses.sums[asker];
            long askerWeight = masses.weights[asker];
            long otherSum = masses.sums[other];
            long otherWeight = masses.weights[other];
            masses.even(asker, other);
            // Without a talk that changes nothing a row is shorter, and such were tried before.
            boolean changed = masses.sums[asker] != askerSum || masses.weights[asker] != askerWeight;
            boolean found = changed && evensOut(depth + 1, talks);
            masses.put(asker, askerSum, askerWeight);
            masses.put(other, otherSum, otherWeight);
            return found;
        }

        /**
         * Whether so few talks may be enough: each changes two, so all but twice as
         * many must be alike already, and one of these is among the first of the crowd.
         */
        private boolean isNear(int talksLeft) {
            int changed = 2 * talksLeft;
            if (crowdSize <= changed) {
                return true;
            }
            for (int i = 0; i <= changed && i < crowdSize; i++) {
                if (hasUnlikeAtMost(crowd[i], changed)) {
                    return true;
                }
            }
            return false;
        }

        private boolean hasUnlikeAtMost(int member, int most) {
            int unlike = 0;
            for (int i = 0; i < crowdSize && unlike <= most; i++) {
                unlike += isLike(member, crowd[i]) ? 0 : 1;
            }
            return unlike <= most;
        }

        private boolean isLike(int a, int b) {
            return masses.sums[a] == masses.sums[b] && masses.weights[a] == masses.weights[b];
        }
    }
}
