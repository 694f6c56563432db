/** Promises 1 to 17, a new object and the calls that change it: each sentence that names an edge. */
public final class CallsEdgeTest extends Edges {
    private static final int[] NO_VALUES = {LEAST_INT, -TOP - 1, TOP + 1, MOST_INT};
    private static final int[] EDGE_VALUES = {-TOP, 1 - TOP, -1, 0, 1, TOP - 1, TOP};
    private static final int[] NO_KINDS = {LEAST_INT, -1, 3, MOST_INT};

    // ---- 1 a new object

    private static void nobodyIsThere() {
        WhisperCrowd x = new WhisperCrowd();
        int[] counts = {0, 0, 0, 0, 0, 0, 1};
        for (int what = 0; what < 7; what++) due("count(" + what + ")", x.count(what), counts[what]);
        for (int m = -1; m <= 10; m++) {
            due("about(" + m + ", 0)", x.about(m, 0), BAD);
            due("mass(" + m + ", true)", x.mass(m, true), 0);
            due("guess(" + m + ")", x.guess(m), -1);
            due("many(" + m + ")", x.many(m), -1);
            due("ticket(" + m + ", 0)", x.ticket(m, 0), BAD);
            due("book(0, " + m + ", false)", x.book(0, m, false), 0);
            due("letter(" + m + ", 0)", x.letter(m, 0), -1);
            due("plan(" + m + ")", x.plan(m), NONE);
        }
        for (int limit = 0; limit <= 3; limit++) due("fewest(" + limit + ")", x.fewest(limit), 0);
        due("plan(0)", x.plan(0), NONE);
        due("far()", x.far(), -1);
        due("unsure()", x.unsure(), NONE);
        due("owed(true)", x.owed(true), 0);
        due("all(true)", x.all(true), 0);
        due("digest()", x.digest(), 506448L);
    }

    private static void nobodyCanDoAnything() {
        refused(WhisperCrowd::new, "line(0, 1)", x -> x.line(0, 1), BAD);
        refused(WhisperCrowd::new, "cut(0, 1)", x -> x.cut(0, 1), BAD);
        refused(WhisperCrowd::new, "set(0, 0)", x -> x.set(0, 0), BAD);
        refused(WhisperCrowd::new, "back(0, 0)", x -> x.back(0, 0), BAD);
        refused(WhisperCrowd::new, "fall(0)", x -> x.fall(0), BAD);
        refused(WhisperCrowd::new, "leave(0, 1)", x -> x.leave(0, 1), BAD);
        refused(WhisperCrowd::new, "talk(0, 0, 1)", x -> x.talk(0, 0, 1), BAD);
        refused(WhisperCrowd::new, "send(0, 1)", x -> x.send(0, 1), BAD);
        refused(WhisperCrowd::new, "bring(0)", x -> x.bring(0), BAD);
        refused(WhisperCrowd::new, "lose(0)", x -> x.lose(0), BAD);
        refused(WhisperCrowd::new, "draw(0, 1)", x -> x.draw(0, 1), NO);
        refused(WhisperCrowd::new, "round(0, 1)", x -> x.round(0, 1), NO);
        refused(WhisperCrowd::new, "undo()", x -> x.undo(), NO);
        taken(WhisperCrowd::new, "come(0)", x -> x.come(0), 0);
        taken(WhisperCrowd::new, "seed(0)", x -> x.seed(0), 1);
        taken(WhisperCrowd::new, "fresh()", x -> x.fresh(), 0);
    }

    private static void objectsShareNothing() {
        WhisperCrowd x = busy();
        long digest = x.digest();
        WhisperCrowd y = full();
        y.round(0, 2);
        y.fewest(3);
        y.seed(7);
        due("digest() of another object", x.digest(), digest);
        due("digest() of a new one", new WhisperCrowd().digest(), 506448L);
    }

    // ---- 2 come

    private static WhisperCrowd nine() {
        return crowd(0, 1, 2, 3, 4, 5, 6, 7, 8);
    }

    private static void comeWithAValue() {
        for (int value : EDGE_VALUES) {
            taken(WhisperCrowd::new, "come(" + value + ")", x -> x.come(value), 0);
            taken(CallsEdgeTest::nine, "come(" + value + "), the tenth", x -> x.come(value), 9);
            WhisperCrowd x = crowd(value);
            for (int what = 1; what <= 3; what++) due("about(0, " + what + ")", x.about(0, what), value);
        }
        for (int value : NO_VALUES) {
            refused(WhisperCrowd::new, "come(" + value + ")", x -> x.come(value), BAD);
            refused(CallsEdgeTest::nine, "come(" + value + "), the tenth", x -> x.come(value), BAD);
            refused(Edges::full, "come(" + value + "), the eleventh", x -> x.come(value), BAD);
        }
    }

    private static WhisperCrowd tenAway() {
        WhisperCrowd x = full();
        x.leave(0, 1);
        for (int m = 1; m < 10; m++) x.fall(m);
        return x;
    }

    private static void comeTenMembersEver() {
        for (int value : EDGE_VALUES) {
            refused(Edges::full, "come(" + value + "), the eleventh", x -> x.come(value), FULL);
        }
        refused(CallsEdgeTest::tenAway, "come(0), all ten being AWAY", x -> x.come(0), FULL);
        WhisperCrowd x = nine();
        due("come(7), the tenth", x.come(7), 9);
        due("undo()", x.undo(), 9);
        due("come(8), the tenth again", x.come(8), 9);
        due("about(9, 1)", x.about(9, 1), 8);
        due("come(9)", x.come(9), FULL);
    }

    // ---- 3 line

    private static void lineBetweenTwo() {
        WhisperCrowd x = crowd(0, 1, 2, 3, 4, 5, 6, 7, 8, 9);
        x.fall(9);
        x.line(0, 1);
        x.leave(1, 0);
        x.fall(8);
        int lines = 1;
        for (int a = 9; a >= 0; a--) {
            for (int b = a - 1; b >= 0; b--) {
                if (a != 1 || b != 0) due("line(" + a + ", " + b + ")", x.line(a, b), ++lines);
                due("line(" + b + ", " + a + ")", x.line(b, a), NO);
            }
        }
        due("count(2), each two being joined", x.count(2), 45);
        taken(() -> crowd(1, 2), "line(0, 1), the first", y -> y.line(0, 1), 1);
        taken(CallsEdgeTest::allLinesButOne, "line(9, 8), the last", y -> y.line(9, 8), 45);
        taken(CallsEdgeTest::awayAndUnjoined, "line(0, 1), both HERE", y -> y.line(0, 1), 2);
        taken(CallsEdgeTest::awayAndUnjoined, "line(0, 2), one FALLEN", y -> y.line(0, 2), 2);
        taken(CallsEdgeTest::awayAndUnjoined, "line(3, 1), one LEFT", y -> y.line(3, 1), 2);
        taken(CallsEdgeTest::awayAndUnjoined, "line(2, 3), both AWAY", y -> y.line(2, 3), 2);
    }

    private static WhisperCrowd allLinesButOne() {
        WhisperCrowd x = full();
        x.cut(8, 9);
        return x;
    }

    /** 2 has FALLEN, 3 has LEFT to 0. */
    private static WhisperCrowd awayAndUnjoined() {
        WhisperCrowd x = crowd(1, 2, 3, 4);
        x.line(3, 0);
        x.fall(2);
        x.leave(3, 0);
        return x;
    }

    private static void lineRefused() {
        strangersRefused(Edges::fallen, "line(m, 0)", (x, m) -> x.line(m, 0), BAD);
        strangersRefused(Edges::fallen, "line(1, m)", (x, m) -> x.line(1, m), BAD);
        strangersRefused(Edges::full, "line(m, 9)", (x, m) -> x.line(m, 9), BAD);
        strangersRefused(Edges::full, "line(9, m)", (x, m) -> x.line(9, m), BAD);
        strangersRefused(Edges::full, "line(m, m)", (x, m) -> x.line(m, m), BAD);
        for (int m = 0; m < 3; m++) {
            int same = m;
            refused(Edges::fallen, "line(" + m + ", " + m + ")", x -> x.line(same, same), BAD);
        }
        refused(Edges::fallen, "line(0, 1), there, 1 being AWAY", x -> x.line(0, 1), NO);
        refused(Edges::fallen, "line(2, 1), there, 1 being AWAY", x -> x.line(2, 1), NO);
        refused(Edges::full, "line(0, 9), there", x -> x.line(0, 9), NO);
        refused(Edges::full, "line(9, 0), there", x -> x.line(9, 0), NO);
    }

    // ---- 4 cut

    private static void cutHowMany() {
        WhisperCrowd x = full();
        int lines = 45;
        for (int a = 0; a < 10; a++) {
            for (int b = 9; b > a; b--) {
                boolean turned = (a + b) % 2 == 0;
                due("cut(" + a + ", " + b + ")", x.cut(turned ? b : a, turned ? a : b), --lines);
                due("cut(" + a + ", " + b + ") again", x.cut(a, b), NO);
            }
        }
        due("count(2)", x.count(2), 0);
        taken(() -> chain(1, 2), "cut(1, 0), the last", y -> y.cut(1, 0), 0);
        taken(Edges::full, "cut(0, 9), the first", y -> y.cut(0, 9), 44);
        taken(Edges::fallen, "cut(1, 2), one FALLEN", y -> y.cut(1, 2), 1);
        taken(Edges::left, "cut(1, 0), one LEFT", y -> y.cut(1, 0), 1);
        taken(CallsEdgeTest::tenAway, "cut(0, 1), both AWAY", y -> y.cut(0, 1), 44);
    }

    private static void cutRefused() {
        strangersRefused(Edges::fallen, "cut(m, 0)", (x, m) -> x.cut(m, 0), BAD);
        strangersRefused(Edges::fallen, "cut(1, m)", (x, m) -> x.cut(1, m), BAD);
        strangersRefused(Edges::full, "cut(m, 9)", (x, m) -> x.cut(m, 9), BAD);
        strangersRefused(Edges::full, "cut(m, m)", (x, m) -> x.cut(m, m), BAD);
        for (int m = 0; m < 3; m++) {
            int same = m;
            refused(Edges::fallen, "cut(" + m + ", " + m + ")", x -> x.cut(same, same), BAD);
        }
        refused(Edges::fallen, "cut(0, 2)", x -> x.cut(0, 2), NO);
        refused(Edges::fallen, "cut(2, 0)", x -> x.cut(2, 0), NO);
    }

    private static WhisperCrowd oneLetter() {
        WhisperCrowd x = chain(4, 8, 16);
        x.send(0, 1);
        return x;
    }

    private static void cutWithALetterUnderWay() {
        refused(CallsEdgeTest::oneLetter, "cut(0, 1)", x -> x.cut(0, 1), NO);
        refused(CallsEdgeTest::oneLetter, "cut(1, 0)", x -> x.cut(1, 0), NO);
        refused(Edges::eightLetters, "cut(0, 1)", x -> x.cut(0, 1), NO);
        taken(CallsEdgeTest::oneLetter, "cut(1, 2): the LETTER is elsewhere", x -> x.cut(1, 2), 1);
        WhisperCrowd x = oneLetter();
        x.bring(0);
        due("cut(0, 1), the LETTER being brought", x.cut(0, 1), 1);
        x = oneLetter();
        x.lose(0);
        due("cut(0, 1), the LETTER being LOST", x.cut(0, 1), 1);
        x = oneLetter();
        x.fall(0);
        due("cut(0, 1), the sender having FALLEN", x.cut(0, 1), 1);
        x = oneLetter();
        x.undo();
        due("cut(0, 1), the LETTER being taken back", x.cut(0, 1), 1);
        x = eightLetters();
        for (int letter = 0; letter < 7; letter++) x.bring(letter);
        due("cut(0, 1), one being UNDER WAY still", x.cut(0, 1), NO);
        x.bring(7);
        due("cut(0, 1)", x.cut(0, 1), 1);
    }

    // ---- 5 set

    private static void setFromEdgeToEdge() {
        for (int from : EDGE_VALUES) {
            for (int to : EDGE_VALUES) {
                WhisperCrowd x = chain(from, 9);
                x.send(0, 1);
                long sum = x.mass(0, false);
                due("set(0, " + to + ")", x.set(0, to), 1);
                due("mass(0, false) from " + from + " to " + to, x.mass(0, false), sum + ((long) to - from) * U);
                due("mass(0, true)", x.mass(0, true), U / 2);
                for (int what = 1; what <= 3; what++) due("about(0, " + what + ")", x.about(0, what), to);
                due("about(0, 4)", x.about(0, 4), 1);
                due("mass(1, false)", x.mass(1, false), 9 * U);
            }
        }
        taken(Edges::busy, "set(2, 2^30)", x -> x.set(2, TOP), 1);
        taken(Edges::busy, "set(2, -2^30)", x -> x.set(2, -TOP), 1);
        taken(Edges::busy, "set(2, -32), as it is", x -> x.set(2, -32), 1);
        WhisperCrowd x = busy();
        due("about(0, 4)", x.about(0, 4), 15);
        x.set(2, -32);
        due("about(0, 4): nobody has heard it any more", x.about(0, 4), 11);
        due("about(2, 4)", x.about(2, 4), 4);
        due("about(2, 2)", x.about(2, 2), -32);
    }

    private static void setRefused() {
        strangersRefused(Edges::fallen, "set(m, 0)", (x, m) -> x.set(m, 0), BAD);
        strangersRefused(Edges::full, "set(m, 0)", (x, m) -> x.set(m, 0), BAD);
        for (int value : NO_VALUES) {
            refused(Edges::busy, "set(0, " + value + ")", x -> x.set(0, value), BAD);
            refused(Edges::fallen, "set(1, " + value + "), 1 being AWAY", x -> x.set(1, value), BAD);
        }
        refused(Edges::fallen, "set(1, 4), 1 having FALLEN", x -> x.set(1, 4), BAD);
        refused(Edges::left, "set(1, 4), 1 having LEFT", x -> x.set(1, 4), BAD);
    }

    // ---- 6 back

    private static void backWithAValue() {
        for (int value : EDGE_VALUES) {
            taken(Edges::fallen, "back(1, " + value + "), 1 having FALLEN", x -> x.back(1, value), 1);
            taken(Edges::left, "back(1, " + value + "), 1 having LEFT", x -> x.back(1, value), 1);
            WhisperCrowd x = left();
            x.back(1, value);
            due("mass(1, false)", x.mass(1, false), value * U);
            due("mass(1, true)", x.mass(1, true), U);
            for (int what = 1; what <= 3; what++) due("about(1, " + what + ")", x.about(1, what), value);
            due("about(1, 4)", x.about(1, 4), 2);
            due("about(1, 5)", x.about(1, 5), 1);
            due("count(0): no new one", x.count(0), 3);
            due("talk(0, 0, 1): its LINES are there", x.talk(0, 0, 1), 1);
        }
        taken(CallsEdgeTest::tenAway, "back(9, 0)", x -> x.back(9, 0), 1);
        taken(CallsEdgeTest::tenAway, "back(0, 0)", x -> x.back(0, 0), 1);
    }

    private static void backRefused() {
        strangersRefused(Edges::fallen, "back(m, 0)", (x, m) -> x.back(m, 0), BAD);
        strangersRefused(CallsEdgeTest::tenAway, "back(m, 0)", (x, m) -> x.back(m, 0), BAD);
        for (int value : NO_VALUES) {
            refused(Edges::fallen, "back(1, " + value + ")", x -> x.back(1, value), BAD);
            refused(Edges::left, "back(1, " + value + ")", x -> x.back(1, value), BAD);
        }
        refused(Edges::fallen, "back(0, 4), 0 being HERE", x -> x.back(0, 4), BAD);
        refused(Edges::fallen, "back(2, 7), 2 being HERE", x -> x.back(2, 7), BAD);
        WhisperCrowd x = fallen();
        due("back(1, 4)", x.back(1, 4), 1);
        due("back(1, 4) again", x.back(1, 4), BAD);
    }

    // ---- 7 fall

    private static void fallHowManyLetters() {
        taken(Edges::eightLetters, "fall(0), 8 LETTERS being from or to it", x -> x.fall(0), 8);
        taken(Edges::eightLetters, "fall(1)", x -> x.fall(1), 8);
        taken(Edges::eightLetters, "fall(2), of none", x -> x.fall(2), 0);
        taken(CallsEdgeTest::oneLetter, "fall(0), one being from it", x -> x.fall(0), 1);
        taken(CallsEdgeTest::oneLetter, "fall(1), one being to it", x -> x.fall(1), 1);
        taken(CallsEdgeTest::oneLetter, "fall(2), one being of others", x -> x.fall(2), 0);
        taken(() -> crowd(5), "fall(0) of one alone", x -> x.fall(0), 0);
        taken(Edges::full, "fall(9)", x -> x.fall(9), 0);
        WhisperCrowd x = eightLetters();
        x.fall(0);
        due("count(3)", x.count(3), 0);
        due("mass(1, false): as if 0 had never been there", x.mass(1, false), -3 * U);
        due("mass(1, true)", x.mass(1, true), U);
        x = oneLetter();
        x.lose(0);
        due("fall(0): a LOST one is not UNDER WAY", x.fall(0), 0);
        due("owed(true)", x.owed(true), 0);
    }

    private static void fallRefused() {
        strangersRefused(Edges::fallen, "fall(m)", (x, m) -> x.fall(m), BAD);
        strangersRefused(Edges::full, "fall(m)", (x, m) -> x.fall(m), BAD);
        refused(Edges::fallen, "fall(1), FALLEN", x -> x.fall(1), BAD);
        refused(Edges::left, "fall(1), LEFT", x -> x.fall(1), BAD);
    }

    // ---- 8 leave

    private static void leaveRefused() {
        strangersRefused(Edges::fallen, "leave(m, 0)", (x, m) -> x.leave(m, 0), BAD);
        strangersRefused(Edges::fallen, "leave(0, m)", (x, m) -> x.leave(0, m), BAD);
        strangersRefused(Edges::full, "leave(m, 9)", (x, m) -> x.leave(m, 9), BAD);
        strangersRefused(Edges::full, "leave(9, m)", (x, m) -> x.leave(9, m), BAD);
        strangersRefused(Edges::full, "leave(m, m)", (x, m) -> x.leave(m, m), BAD);
        refused(Edges::fallen, "leave(1, 0), 1 having FALLEN", x -> x.leave(1, 0), BAD);
        refused(Edges::fallen, "leave(0, 1), 1 having FALLEN", x -> x.leave(0, 1), BAD);
        refused(Edges::left, "leave(1, 0), 1 having LEFT", x -> x.leave(1, 0), BAD);
        refused(Edges::left, "leave(2, 1), 1 having LEFT", x -> x.leave(2, 1), BAD);
        refused(CallsEdgeTest::tenAway, "leave(3, 4), both being AWAY", x -> x.leave(3, 4), BAD);
        refused(Edges::fallen, "leave(0, 0)", x -> x.leave(0, 0), BAD);
        refused(Edges::fallen, "leave(1, 1), AWAY", x -> x.leave(1, 1), BAD);
        refused(Edges::fallen, "leave(0, 2) without a LINE", x -> x.leave(0, 2), NO);
        refused(Edges::fallen, "leave(2, 0) without a LINE", x -> x.leave(2, 0), NO);
    }

    private static WhisperCrowd letterInAWeb() {
        WhisperCrowd x = web(4, 8, 16, 32);
        x.send(0, 1);
        return x;
    }

    private static void leaveWithLettersUnderWay() {
        refused(CallsEdgeTest::letterInAWeb, "leave(0, 1), a LETTER being from it to t", x -> x.leave(0, 1), NO);
        refused(CallsEdgeTest::letterInAWeb, "leave(1, 0), a LETTER being to it from t", x -> x.leave(1, 0), NO);
        refused(CallsEdgeTest::letterInAWeb, "leave(0, 2), a LETTER being from it", x -> x.leave(0, 2), NO);
        refused(CallsEdgeTest::letterInAWeb, "leave(1, 2), a LETTER being to it", x -> x.leave(1, 2), NO);
        taken(CallsEdgeTest::letterInAWeb, "leave(2, 0), a LETTER being from t", x -> x.leave(2, 0), 1);
        taken(CallsEdgeTest::letterInAWeb, "leave(2, 1), a LETTER being to t", x -> x.leave(2, 1), 1);
        taken(CallsEdgeTest::letterInAWeb, "leave(2, 3), a LETTER being of others", x -> x.leave(2, 3), 1);
        WhisperCrowd x = letterInAWeb();
        x.lose(0);
        due("leave(0, 1), the LETTER being LOST", x.leave(0, 1), 1);
        x = letterInAWeb();
        x.bring(0);
        due("leave(1, 0), the LETTER being brought", x.leave(1, 0), 1);
        due("mass(0, false)", x.mass(0, false), 4 * U);
        due("about(1, 0)", x.about(1, 0), 0);
        due("bring(0): it is none", x.bring(0), BAD);
    }

    private static void leaveTillOneIsLeft() {
        WhisperCrowd x = full();
        x.draw(0, 60);
        for (int m = 9; m > 0; m--) due("leave(" + m + ", 0)", x.leave(m, 0), 1);
        due("mass(0, false)", x.mass(0, false), 0);
        due("mass(0, true)", x.mass(0, true), U);
        due("count(1)", x.count(1), 1);
        due("leave(0, 1)", x.leave(0, 1), BAD);
        due("fall(0)", x.fall(0), 0);
        due("all(true)", x.all(true), 0);
    }

    // ---- 9 talk

    private static void talkOfAKind() {
        for (int kind = 0; kind < 3; kind++) {
            int k = kind;
            taken(Edges::busy, "talk(" + kind + ", 0, 1)", x -> x.talk(k, 0, 1), 1);
            taken(Edges::full, "talk(" + kind + ", 9, 0)", x -> x.talk(k, 9, 0), 1);
            strangersRefused(Edges::fallen, "talk(" + kind + ", m, 0)", (x, m) -> x.talk(k, m, 0), BAD);
            strangersRefused(Edges::fallen, "talk(" + kind + ", 0, m)", (x, m) -> x.talk(k, 0, m), BAD);
            strangersRefused(Edges::full, "talk(" + kind + ", m, m)", (x, m) -> x.talk(k, m, m), BAD);
            refused(Edges::fallen, "talk(" + kind + ", 1, 0), 1 being AWAY", x -> x.talk(k, 1, 0), BAD);
            refused(Edges::left, "talk(" + kind + ", 2, 1), 1 being AWAY", x -> x.talk(k, 2, 1), BAD);
            refused(Edges::left, "talk(" + kind + ", 1, 1), 1 being AWAY", x -> x.talk(k, 1, 1), BAD);
            refused(Edges::fallen, "talk(" + kind + ", 0, 2) without a LINE", x -> x.talk(k, 0, 2), NO);
            refused(Edges::fallen, "talk(" + kind + ", 2, 0) without a LINE", x -> x.talk(k, 2, 0), NO);
            refused(Edges::fallen, "talk(" + kind + ", 0, 0) with itself", x -> x.talk(k, 0, 0), NO);
            refused(CallsEdgeTest::allLinesButOne, "talk(" + kind + ", 9, 8)", x -> x.talk(k, 9, 8), NO);
        }
        for (int kind : NO_KINDS) {
            refused(Edges::busy, "talk(" + kind + ", 0, 1)", x -> x.talk(kind, 0, 1), BAD);
            refused(Edges::fallen, "talk(" + kind + ", 0, 2) without a LINE", x -> x.talk(kind, 0, 2), BAD);
        }
    }

    /** A talk that changes nothing is one for all that. */
    private static void talkOfLikeOnes() {
        WhisperCrowd x = chain(5, 5);
        for (int kind = 0; kind < 3; kind++) {
            x.talk(kind, 0, 1);
            long digest = x.digest();
            due("talk(" + kind + ", 0, 1) again", x.talk(kind, 0, 1), 1);
            due("digest()", x.digest(), digest);
        }
        due("count(4)", x.count(4), 6);
        due("count(5)", x.count(5), 9);
    }

    // ---- 10 to 12 letters

    private static void sendNumbers() {
        WhisperCrowd x = chain(1000, -1000, 5);
        for (int letter = 0; letter < 8; letter++) due("send(0, 1)", x.send(0, 1), letter);
        due("count(3)", x.count(3), 8);
        due("send(0, 1), the ninth", x.send(0, 1), FULL);
        int[] freed = {7, 3, 0, 5};
        for (int letter : freed) {
            if (letter % 2 == 0) x.lose(letter);
            else x.bring(letter);
            due("send(1, 2): the one that is free", x.send(1, 2), letter);
            due("send(1, 2)", x.send(1, 2), FULL);
        }
        x.bring(6);
        x.lose(2);
        due("send(0, 1): the least of two", x.send(0, 1), 2);
        due("send(0, 1): the other", x.send(0, 1), 6);
        due("send(0, 1)", x.send(0, 1), FULL);
        taken(CallsEdgeTest::sevenLetters, "send(0, 1), the eighth", y -> y.send(0, 1), 7);
        taken(Edges::full, "send(9, 0), the first", y -> y.send(9, 0), 0);
    }

    private static WhisperCrowd sevenLetters() {
        WhisperCrowd x = eightLetters();
        x.undo();
        return x;
    }

    private static void sendRefused() {
        strangersRefused(Edges::fallen, "send(m, 0)", (x, m) -> x.send(m, 0), BAD);
        strangersRefused(Edges::fallen, "send(0, m)", (x, m) -> x.send(0, m), BAD);
        strangersRefused(Edges::eightLetters, "send(m, 0)", (x, m) -> x.send(m, 0), BAD);
        strangersRefused(Edges::full, "send(m, m)", (x, m) -> x.send(m, m), BAD);
        refused(Edges::fallen, "send(0, 1), 1 being AWAY", x -> x.send(0, 1), BAD);
        refused(Edges::left, "send(1, 0), 1 being AWAY", x -> x.send(1, 0), BAD);
        refused(Edges::left, "send(1, 1), 1 being AWAY", x -> x.send(1, 1), BAD);
        refused(Edges::fallen, "send(0, 2) without a LINE", x -> x.send(0, 2), NO);
        refused(Edges::fallen, "send(0, 0) to itself", x -> x.send(0, 0), NO);
        refused(Edges::eightLetters, "send(0, 1), the ninth", x -> x.send(0, 1), FULL);
        refused(Edges::eightLetters, "send(1, 0), the ninth", x -> x.send(1, 0), FULL);
        refused(Edges::eightLetters, "send(1, 2), the ninth", x -> x.send(1, 2), FULL);
    }

    private static void letterNumbers() {
        for (int letter = 0; letter < 8; letter++) {
            int n = letter;
            taken(Edges::eightLetters, "bring(" + letter + ")", x -> x.bring(n), 1 - n % 2);
            taken(Edges::eightLetters, "lose(" + letter + ")", x -> x.lose(n), n % 2);
        }
        for (int letter : new int[] {LEAST_INT, -1, 8, MOST_INT}) {
            refused(Edges::eightLetters, "bring(" + letter + ")", x -> x.bring(letter), BAD);
            refused(Edges::eightLetters, "lose(" + letter + ")", x -> x.lose(letter), BAD);
        }
        for (int letter = 1; letter < 8; letter++) {
            int n = letter;
            refused(CallsEdgeTest::oneLetter, "bring(" + letter + "), none", x -> x.bring(n), BAD);
            refused(CallsEdgeTest::oneLetter, "lose(" + letter + "), none", x -> x.lose(n), BAD);
        }
    }

    private static void lettersThatAreNone() {
        WhisperCrowd x = eightLetters();
        x.bring(0);
        x.lose(7);
        for (int letter = 0; letter < 8; letter += 7) {
            due("bring(" + letter + "), brought or LOST", x.bring(letter), BAD);
            due("lose(" + letter + "), brought or LOST", x.lose(letter), BAD);
        }
        due("count(3)", x.count(3), 6);
        x.fall(1);
        for (int letter = 0; letter < 8; letter++) {
            due("bring(" + letter + ") of one that has FALLEN", x.bring(letter), BAD);
            due("lose(" + letter + ") of one that has FALLEN", x.lose(letter), BAD);
        }
        x.undo();
        due("bring(1), FALL being taken back", x.bring(1), 0);
    }

    /** What is LOST is counted with the sign it has, and none of it is lost twice. */
    private static void whatIsLost() {
        WhisperCrowd x = eightLetters();
        long sum = 0;
        long weight = 0;
        for (int letter = 7; letter >= 0; letter--) {
            sum += x.letter(letter, 2);
            weight += x.letter(letter, 3);
            x.lose(letter);
            due("owed(false)", x.owed(false), sum);
            due("owed(true)", x.owed(true), weight);
        }
        due("all(false)", x.all(false), 1002 * U);
        due("all(true)", x.all(true), 3 * U);
        WhisperCrowd y = chain(-7, 2);
        y.send(0, 1);
        y.lose(0);
        due("owed(false) below 0", y.owed(false), -7 * U / 2);
    }

    // ---- 13 seed

    private static void seedFromNought() {
        for (int v : new int[] {0, 1, MOST_INT - 1, MOST_INT}) {
            taken(Edges::busy, "seed(" + v + ")", x -> x.seed(v), 1);
            WhisperCrowd x = new WhisperCrowd();
            x.seed(v);
            due("count(6)", x.count(6), v);
        }
        for (int v : new int[] {-1, LEAST_INT, -2}) {
            refused(Edges::busy, "seed(" + v + ")", x -> x.seed(v), BAD);
            refused(WhisperCrowd::new, "seed(" + v + ")", x -> x.seed(v), BAD);
        }
    }

    // ---- 14 and 15 draw, round

    private static WhisperCrowd lineWithOneAway() {
        WhisperCrowd x = chain(1, 2);
        x.fall(1);
        return x;
    }

    private static void drawAndRoundHowOften() {
        for (int kind = 0; kind < 3; kind++) {
            int k = kind;
            for (int n : new int[] {1, 2, 59, 60}) {
                taken(Edges::full, "draw(" + kind + ", " + n + ")", x -> x.draw(k, n), 1);
                WhisperCrowd x = chain(7, 4);
                x.draw(kind, n);
                due("count(4)", x.count(4), n);
                int seed = next(next(1));
                for (int i = 0; i < 2 * n; i++) seed = next(seed);
                due("count(6): drawn twice for each TALK", x.count(6), seed);
            }
            for (int n : new int[] {1, 2, 19, 20}) {
                taken(Edges::full, "round(" + kind + ", " + n + ")", x -> x.round(k, n), 1);
                taken(() -> chain(7, 4), "round(" + kind + ", " + n + ") over one LINE", x -> x.round(k, n), 1);
                WhisperCrowd x = full();
                int seed = x.count(6);
                x.round(kind, n);
                due("count(4)", x.count(4), 45 * n);
                due("count(6): nothing is drawn", x.count(6), seed);
            }
            for (int n : new int[] {LEAST_INT, -1, 0, 61, MOST_INT}) {
                refused(Edges::full, "draw(" + kind + ", " + n + ")", x -> x.draw(k, n), BAD);
            }
            for (int n : new int[] {LEAST_INT, -1, 0, 21, 60, MOST_INT}) {
                refused(Edges::full, "round(" + kind + ", " + n + ")", x -> x.round(k, n), BAD);
            }
        }
    }

    private static void drawAndRoundOfWhatKind() {
        for (int kind : NO_KINDS) {
            refused(Edges::full, "draw(" + kind + ", 1)", x -> x.draw(kind, 1), BAD);
            refused(Edges::full, "round(" + kind + ", 1)", x -> x.round(kind, 1), BAD);
            refused(WhisperCrowd::new, "draw(" + kind + ", 1)", x -> x.draw(kind, 1), BAD);
            refused(WhisperCrowd::new, "round(" + kind + ", 1)", x -> x.round(kind, 1), BAD);
        }
        for (int kind = 0; kind < 3; kind++) {
            int k = kind;
            refused(() -> crowd(1), "draw(" + kind + ", 1) of one", x -> x.draw(k, 1), NO);
            refused(() -> crowd(1), "round(" + kind + ", 1) of one", x -> x.round(k, 1), NO);
            refused(() -> crowd(1, 2), "draw(" + kind + ", 60) without a LINE", x -> x.draw(k, 60), NO);
            refused(() -> crowd(1, 2), "round(" + kind + ", 20) without a LINE", x -> x.round(k, 20), NO);
            refused(CallsEdgeTest::lineWithOneAway, "draw(" + kind + ", 1), one AWAY", x -> x.draw(k, 1), NO);
            refused(CallsEdgeTest::lineWithOneAway, "round(" + kind + ", 1), one AWAY", x -> x.round(k, 1), NO);
            refused(CallsEdgeTest::tenAway, "draw(" + kind + ", 1), all AWAY", x -> x.draw(k, 1), NO);
            refused(CallsEdgeTest::tenAway, "round(" + kind + ", 1), all AWAY", x -> x.round(k, 1), NO);
        }
        WhisperCrowd x = lineWithOneAway();
        x.back(1, 9);
        due("draw(0, 1), 1 being back", x.draw(0, 1), 1);
        x.cut(0, 1);
        due("round(0, 1), the LINE being cut", x.round(0, 1), NO);
    }

    /** Of 45 LINES each in its turn: by GREAT only the two that talked have heard one another. */
    private static void drawEachOfTheLines() {
        for (int line = 0; line < 45; line++) {
            WhisperCrowd x = full();
            x.fresh();
            x.seed(seedBefore(45 * 1000 + line));
            x.draw(1, 1);
            int number = 0;
            for (int a = 0; a < 10; a++) {
                for (int b = a + 1; b < 10; b++) {
                    boolean talked = x.about(a, 4) == (1 << a | 1 << b) && x.about(b, 4) == x.about(a, 4);
                    due("whether " + a + " and " + b + " talked", talked ? 1 : 0, number == line ? 1 : 0);
                    number++;
                }
            }
        }
    }

    /** The lesser one asks if what is drawn is even, as 0 is; of sums of 1 and 0 the asking one has the rest. */
    private static void drawWhoAsks() {
        int[] drawn = {0, 1, 2, MOST_INT - 1, MOST_INT};
        for (int second : drawn) {
            WhisperCrowd x = chain(1, 0);
            wearDown(x, 0, 1);
            wearDown(x, 1, 0);
            x.seed(seedBefore(seedBefore(second)));
            x.draw(0, 1);
            due("count(6)", x.count(6), second);
            due("mass(0, false), " + second + " being drawn", x.mass(0, false), second % 2 == 0 ? 1 : 0);
            due("mass(1, false)", x.mass(1, false), second % 2 == 0 ? 0 : 1);
        }
    }

    // ---- 16 fresh

    private static void freshHowMany() {
        for (int here = 0; here <= 10; here++) {
            WhisperCrowd x = full();
            x.round(1, 1);
            x.round(2, 1);
            for (int m = here; m < 10; m++) x.fall(m);
            int seed = x.count(6);
            due("fresh() of " + here, x.fresh(), here);
            for (int m = 0; m < here; m++) {
                seed = next(seed);
                due("ticket(" + m + ", 0)", x.ticket(m, 0), seed);
                due("about(" + m + ", 5)", x.about(m, 5), 1);
                due("about(" + m + ", 4)", x.about(m, 4), 1 << m);
                due("about(" + m + ", 2)", x.about(m, 2), x.about(m, 1));
                due("about(" + m + ", 3)", x.about(m, 3), x.about(m, 1));
            }
            due("count(6): those AWAY draw nothing", x.count(6), seed);
        }
        taken(Edges::busy, "fresh()", x -> x.fresh(), 4);
        taken(CallsEdgeTest::tenAway, "fresh(), all AWAY", x -> x.fresh(), 0);
    }

    // ---- 17 undo

    private static void undoHowMany() {
        refused(WhisperCrowd::new, "undo()", x -> x.undo(), NO);
        WhisperCrowd x = crowd(5);
        due("undo() of the only call", x.undo(), 0);
        due("undo()", x.undo(), NO);
        due("digest()", x.digest(), 506448L);
        x = full();
        for (int left = 19; left >= 0; left--) due("undo()", x.undo(), left);
        due("undo() of the 21st call", x.undo(), NO);
        due("count(2): those before the latest 20 stay", x.count(2), 25);
        due("come(0)", x.come(0), FULL);
    }

    /** Taking back goes on from what it brought back, and calls (U) then are new ones. */
    private static void undoAndOnAgain() {
        WhisperCrowd x = full();
        for (int i = 0; i < 100; i++) {
            x.seed(i);
            x.seed(i + 1000);
            due("undo()", x.undo(), 19);
            due("count(6)", x.count(6), i);
        }
        for (int i = 98; i >= 80; i--) {
            due("undo()", x.undo(), i - 80);
            due("count(6)", x.count(6), i);
        }
        due("undo()", x.undo(), NO);
        due("count(6)", x.count(6), 80);
    }

    private static void whoComesAndGoes() {
        on("1: Nobody", CallsEdgeTest::nobodyIsThere);
        on("1: Nobody, refused", CallsEdgeTest::nobodyCanDoAnything);
        on("1: a new object", CallsEdgeTest::objectsShareNothing);
        on("2: with a VALUE; BAD", CallsEdgeTest::comeWithAValue);
        on("2: FULL: 10", CallsEdgeTest::comeTenMembersEver);
        on("3: HERE or AWAY: how many LINES; NO: there is one", CallsEdgeTest::lineBetweenTwo);
        on("3: BAD: also a is b", CallsEdgeTest::lineRefused);
        on("4: how many; NO: there is none", CallsEdgeTest::cutHowMany);
        on("4: BAD", CallsEdgeTest::cutRefused);
        on("4: NO: a LETTER is UNDER WAY over it", CallsEdgeTest::cutWithALetterUnderWay);
        on("5: the difference times UNIT besides", CallsEdgeTest::setFromEdgeToEdge);
        on("5: BAD: also it is AWAY", CallsEdgeTest::setRefused);
        on("6: comes back with a VALUE", CallsEdgeTest::backWithAValue);
        on("6: BAD: also it is HERE", CallsEdgeTest::backRefused);
        on("7: how many LETTERS were UNDER WAY", CallsEdgeTest::fallHowManyLetters);
        on("7: BAD: also it is AWAY", CallsEdgeTest::fallRefused);
        on("8: BAD: AWAY, or they are one; NO: no LINE", CallsEdgeTest::leaveRefused);
        on("8: NO: a LETTER is UNDER WAY", CallsEdgeTest::leaveWithLettersUnderWay);
        on("8: LEAVING", CallsEdgeTest::leaveTillOneIsLeft);
    }

    private static void whoTalks() {
        on("9: kind 0, 1, 2; BAD: AWAY; NO: no LINE", CallsEdgeTest::talkOfAKind);
        on("9: a TALK", CallsEdgeTest::talkOfLikeOnes);
        on("10: 0 .. 7, the least that is none; FULL: 8", CallsEdgeTest::sendNumbers);
        on("10: BAD; NO, as talk()", CallsEdgeTest::sendRefused);
        on("11, 12: BAD: it is none UNDER WAY", CallsEdgeTest::letterNumbers);
        on("11, 12: brought, LOST", CallsEdgeTest::lettersThatAreNone);
        on("12: a LETTER is LOST", CallsEdgeTest::whatIsLost);
        on("13: BAD: below 0", CallsEdgeTest::seedFromNought);
        on("14, 15: n", CallsEdgeTest::drawAndRoundHowOften);
        on("14, 15: BAD: kind; NO", CallsEdgeTest::drawAndRoundOfWhatKind);
        on("14: leaves a number: that one of these LINES", CallsEdgeTest::drawEachOfTheLines);
        on("14: asked by the lesser one, if even", CallsEdgeTest::drawWhoAsks);
        on("16: all that are HERE: how many", CallsEdgeTest::freshHowMany);
        on("17: how many can be still; NO: none can", CallsEdgeTest::undoHowMany);
        on("17: the latest call (U)", CallsEdgeTest::undoAndOnAgain);
    }

    public static void main(String[] args) {
        whoComesAndGoes();
        whoTalks();
        end("calls");
    }
}
