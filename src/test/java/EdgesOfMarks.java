/** The edges of promises 19 to 21 and 28, and of what the terms say of readings and marks. */
final class EdgesOfMarks {
    private final Edges edges;

    EdgesOfMarks(Edges edges) {
        this.edges = edges;
    }

    void all() {
        readingsThatCount();
        wanting();
        marks();
        appeals();
        mark();
        markAnew();
        answer();
        wanted();
    }

    private static void work(ScriptRoom x, int reader, int points) {
        Check.work(x, reader, points);
    }

    /** One answer, of pupil 0 to question 0: its mark, found both ways, and what answer() tells of it. */
    private void is(String what, ScriptRoom x, int mark, int counting, int all, int wanted) {
        edges.same(what + ", mark", x.mark(0, 0), mark);
        edges.same(what + ", markAnew", x.markAnew(0, 0), mark);
        edges.same(what + ", counting", x.answer(0, 0, 0), counting);
        edges.same(what + ", all", x.answer(0, 0, 1), all);
        edges.same(what + ", wanted", x.answer(0, 0, 2), wanted);
        edges.same(what + ", wanted in all", x.wanted(), wanted);
    }

    // ---- terms: which readings count

    private void readingsThatCount() {
        lettersAsItWasRead();
        asLongAsAllLetters();
        unlessVoid();
        byTheSchemeThatHolds();
    }

    private void lettersAsItWasRead() {
        edges.words("Terms", "and the letters of the scheme that held as it was read.");
        ScriptRoom x = Edges.room("a", 1, "j");
        x.next(0);
        Check.scheme(x, 0, "a+b");
        x.read(0, 3);
        is("b came between next and read", x, 2, 1, 1, 0);
        Check.scheme(x, 0, "3b");
        is("and b alone", x, 3, 1, 1, 0);
        ScriptRoom y = Edges.room("a+b", 1, "j");
        y.next(0);
        Check.scheme(y, 0, "a");
        y.read(0, 3);
        is("b fell away between next and read", y, 1, 1, 1, 0);
        Check.scheme(y, 0, "a+b");
        is("and b again", y, -1, 0, 1, 1);
    }

    private void counts(String read, String holds, int due) {
        ScriptRoom x = Edges.room(read, 1, "j");
        work(x, 0, 255);
        Check.scheme(x, 0, holds);
        is("read by " + read + ", holds " + holds, x, due, due < 0 ? 0 : 1, 1, due < 0 ? 1 : 0);
        Check.scheme(x, 0, read);
        edges.same("and by " + read + " again", x.answer(0, 0, 0), 1);
    }

    private void asLongAsAllLetters() {
        edges.words("Terms", "It counts, unless it is void, as long as all letters of the scheme that holds are among those.");
        counts("a", "a", 1);
        counts("a", "2a", 2);
        counts("a", "a+a+a", 3);
        counts("a+b", "a", 1);
        counts("a+b", "b", 1);
        counts("a+b", "(a|b)+a", 2);
        counts("a+b", "a+b+c", -1);
        counts("a+b", "a+c", -1);
        counts("a+b", "a+b+(b|c)", -1);
        counts("a", "b", -1);
        counts("h", "a", -1);
        counts("a", "h", -1);
        counts("a+b+c+d+e+f+g+h", "h", 1);
        counts("a+b+c+d+e+f+g+h", "9h<4", 4);
        counts("a+b+c+d+e+f+g", "a+b+c+d+e+f+g+h", -1);
        counts("a+b+c+d+e+f+g+h", "(a|b|c|d|e|f|g|h)", 1);
    }

    private void unlessVoid() {
        edges.words("Terms", "unless it is void");
        ScriptRoom x = Edges.room("3a", 3, "jj");
        x.seed(0, 1);
        for (int i = 0; i < 3; i++) work(x, 0, 1);
        edges.same("it counts", x.mark(0, 0), 3);
        work(x, 0, 0);
        edges.same("it is void", x.mark(0, 0), -1);
        Check.scheme(x, 0, "2a");
        edges.same("void by another scheme too", x.answer(0, 0, 0), 0);
        x.goOn(0);
        edges.same("and void still", x.markAnew(0, 0), -1);
        work(x, 1, 1);
        edges.same("another one counts", x.mark(0, 0), 2);
        edges.same("one of two", x.answer(0, 0, 0) * 10 + x.answer(0, 0, 1), 12);
    }

    private void byTheSchemeThatHolds() {
        edges.words("Terms", "An answer has a scheme's mark by each reading that counts, by the scheme that holds.");
        ScriptRoom x = Edges.room("a+b", 1, "j");
        x.next(0);
        Check.scheme(x, 0, "2a+b");
        edges.same("the scheme that holds as it is read", x.read(0, 1), 2);
        is("by it", x, 2, 1, 1, 0);
        Check.scheme(x, 0, "9(9a)+9(3a)");
        is("at most 99", x, 99, 1, 1, 0);
        Check.scheme(x, 0, "9a<0");
        is("at most 0", x, 0, 1, 1, 0);
        Check.scheme(x, 0, "9a<");
        is("a fault holds nothing", x, 0, 1, 1, 0);
        Check.scheme(x, 1, "5a");
        is("nor another question's", x, 0, 1, 1, 0);
    }

    // ---- terms: what an answer wants

    private void wanting() {
        oneOrTwo();
        aThirdOne();
        oneAtFirst();
        unlessOneBehind();
        withoutAScheme();
    }

    private void oneOrTwo() {
        edges.words("Terms", "An answer wants one reading that counts, or two, if its question is read twice.");
        ScriptRoom x = Edges.room("a", 1, "jj");
        is("one", x, -1, 0, 0, 1);
        x.twice(0, true);
        is("two", x, -1, 0, 0, 2);
        work(x, 0, 1);
        is("one of two", x, -1, 1, 1, 1);
        x.twice(1, true);
        x.twice(0, false);
        is("one of one", x, 1, 1, 1, 0);
        x.twice(0, true);
        work(x, 1, 1);
        is("two of two", x, 1, 2, 2, 0);
        Check.scheme(x, 0, "b");
        is("none of two", x, -1, 0, 2, 2);
    }

    private ScriptRoom pair(int tolerance, int first, int second) {
        ScriptRoom x = Edges.room("a+2b+4c+8d", 1, "jsss");
        x.twice(0, true);
        if (tolerance >= 0) x.tolerance(tolerance);
        work(x, 0, first);
        work(x, 1, second);
        return x;
    }

    private void aThirdOne() {
        edges.words("Terms", "If it has two, and the marks of the first two are more than the tolerance apart");
        for (int tolerance = 0; tolerance <= 9; tolerance++) {
            is("0 and " + tolerance, pair(tolerance, 0, tolerance), (tolerance + 1) / 2, 2, 2, 0);
            is(tolerance + " and 0", pair(tolerance, tolerance, 0), (tolerance + 1) / 2, 2, 2, 0);
            is("5 and one more than " + tolerance, pair(tolerance, 5, 6 + tolerance), -1, 2, 2, 1);
            is("one more than " + tolerance + " and 5", pair(tolerance, 6 + tolerance, 5), -1, 2, 2, 1);
        }
        ScriptRoom x = pair(0, 5, 15);
        x.twice(0, false);
        is("one that wants one has no third", x, 5, 2, 2, 0);
    }

    private void oneAtFirst() {
        edges.words("Terms", "1 at first, it wants a third one by a senior");
        is("equal", pair(-1, 5, 5), 5, 2, 2, 0);
        is("1 apart", pair(-1, 5, 6), 6, 2, 2, 0);
        is("2 apart", pair(-1, 5, 7), -1, 2, 2, 1);
    }

    private void unlessOneBehind() {
        edges.words("Terms", "unless one by a senior that counts is behind these two.");
        ScriptRoom x = pair(1, 15, 0);
        is("the second one is a senior's", x, -1, 2, 2, 1);
        work(x, 2, 4);
        is("one behind them", x, 4, 3, 3, 0);
        Check.scheme(x, 0, "8d");
        is("by another scheme", x, 0, 3, 3, 0);
        Check.scheme(x, 0, "e");
        is("none counts", x, -1, 0, 3, 2);
        juniorBehind();
        voidBehind();
    }

    /** A junior's is behind two that are apart, as the letters of all three hold again. */
    private void juniorBehind() {
        ScriptRoom x = Edges.room("a+2b+4c", 1, "jjs");
        x.twice(0, true);
        work(x, 0, 7);
        x.next(1);
        Check.scheme(x, 0, "a+2b+4c+8d");
        x.next(2);
        x.read(2, 0);
        x.read(1, 5);
        is("two of three count", x, -1, 2, 3, 1);
        Check.scheme(x, 0, "a+2b+4c");
        is("the third one is a junior's", x, -1, 3, 3, 1);
        edges.same("nor may the senior read again", x.next(2), -1);
        x.reader(-1, 15, true);
        work(x, 3, 3);
        is("the fourth one is a senior's", x, 3, 4, 4, 0);
    }

    private void voidBehind() {
        ScriptRoom x = Edges.room("a+2b+4c", 3, "jjs");
        x.twice(0, true);
        x.seed(0, 7);
        for (int i = 0; i < 3; i++) work(x, 0, 7);
        work(x, 1, 0);
        for (int i = 0; i < 3; i++) work(x, 2, 6);
        edges.same("the senior's counts", x.mark(0, 0), 6);
        work(x, 2, 0);
        edges.same("it is void", x.mark(0, 0), -1);
        edges.same("and found anew", x.markAnew(0, 0), -1);
        edges.same("one is wanted again", x.answer(0, 0, 2), 1);
    }

    private void withoutAScheme() {
        edges.words("Terms", "Without a scheme answers want readings all the same.");
        ScriptRoom x = new ScriptRoom();
        x.pupil(0, 0, false);
        x.twice(3, true);
        edges.same("one", x.answer(0, 0, 2), 1);
        edges.same("two", x.answer(0, 3, 2), 2);
        edges.same("in all", x.wanted(), 5);
    }

    // ---- terms: marks

    private void marks() {
        noAnswer();
        theFirstOneThatCounts();
        bothTogether();
        theSeniorsBehind();
        readingsAreLacking();
    }

    private void noAnswer() {
        edges.words("Terms", "The mark of an answer: 0 if there is none of it.");
        ScriptRoom x = new ScriptRoom();
        x.pupil(0, 15, false);
        x.twice(0, true);
        is("no answer", x, 0, 0, 0, 0);
        Check.scheme(x, 0, "a");
        is("with a scheme", x, 0, 0, 0, 0);
        x.reader(-1, 15, true);
        edges.same("is never given", x.next(0), -1);
    }

    private void theFirstOneThatCounts() {
        edges.words("Terms", "Of one that wants one reading: the first one that counts.");
        ScriptRoom x = Edges.room("a+2b", 1, "jj");
        x.twice(0, true);
        x.next(0);
        x.next(1);
        x.twice(0, false);
        x.read(1, 1);
        x.read(0, 3);
        is("the one that was read first", x, 1, 2, 2, 0);
        ScriptRoom y = Edges.room("a", 1, "jj");
        work(y, 0, 1);
        Check.scheme(y, 0, "a+2b");
        work(y, 1, 2);
        is("the only one that counts", y, 2, 1, 2, 0);
        Check.scheme(y, 0, "5a");
        is("the first of two that count", y, 5, 2, 2, 0);
    }

    private void bothTogether() {
        edges.words("Terms", "if the first two are within the tolerance: both together and 1, divided by 2, rounded down");
        int[][] due = {{0, 0, 0}, {0, 1, 1}, {1, 0, 1}, {1, 1, 1}, {1, 2, 2}, {2, 2, 2}, {7, 8, 8}, {8, 7, 8}, {6, 8, 7}, {6, 9, 8}, {15, 14, 15}};
        for (int[] d : due) is(d[0] + " and " + d[1], pair(9, d[0], d[1]), d[2], 2, 2, 0);
        ScriptRoom x = pair(9, 1, 3);
        Check.scheme(x, 0, "9(9a)+9(2a)+b");
        is("99 and 99", x, 99, 2, 2, 0);
        Check.scheme(x, 0, "9(9a)+9a+8a+a<98");
        is("98 and 98", x, 98, 2, 2, 0);
    }

    private void theSeniorsBehind() {
        edges.words("Terms", "otherwise the mark of the first one by a senior behind these two.");
        ScriptRoom x = pair(1, 15, 0);
        work(x, 2, 7);
        is("the third one alone", x, 7, 3, 3, 0);
        x.tolerance(9);
        is("it alone, with more tolerance", x, 7, 3, 3, 0);
        ScriptRoom y = Edges.room("a+2b+4c", 1, "ss");
        y.twice(0, true);
        work(y, 0, 7);
        y.next(1);
        Check.scheme(y, 0, "a+2b+4c+d");
        y.next(0);
        y.read(1, 1);
        y.read(0, 4);
        edges.same("two new ones that are apart", y.answer(0, 0, 2), 1);
        Check.scheme(y, 0, "a+2b+4c");
        is("7, 1, and the first senior's 4 behind", y, 4, 3, 3, 0);
        y.reader(-1, 15, true);
        edges.same("no other one is wanted", y.next(2), -1);
    }

    private void readingsAreLacking() {
        edges.words("Terms", "It is not there as long as readings are lacking.");
        ScriptRoom x = Edges.room("a+2b+4c+8d", 1, "jss");
        is("of one", x, -1, 0, 0, 1);
        x.twice(0, true);
        is("of two, both", x, -1, 0, 0, 2);
        work(x, 0, 15);
        is("of two, one", x, -1, 1, 1, 1);
        work(x, 1, 0);
        is("a third one", x, -1, 2, 2, 1);
        x.next(2);
        is("as long as it is at hand", x, -1, 2, 2, 1);
        x.read(2, 0);
        is("no more", x, 0, 3, 3, 0);
        for (int tolerance = 0; tolerance <= 9; tolerance++) {
            ScriptRoom y = Edges.room("3a", 1, "j");
            y.twice(0, true);
            y.tolerance(tolerance);
            work(y, 0, 1);
            is("one of two, however much is tolerated", y, -1, 1, 1, 1);
        }
    }

    // ---- terms: appeals

    private void appeals() {
        firstForTheAppeal();
        onlyIfTheMarkIsThere();
        forThatAlone();
        asItIsWhenGiven();
    }

    private static ScriptRoom appealed(int tolerance, int mark, int anew) {
        ScriptRoom x = Edges.room("a+2b+4c+8d", 1, "jss");
        work(x, 0, mark);
        x.tolerance(tolerance);
        x.release();
        x.appeal(0, 0);
        work(x, 1, anew);
        return x;
    }

    private void firstForTheAppeal() {
        edges.words("Terms", "that of the first such one, if it is more than the tolerance apart from the mark as it is without it.");
        for (int tolerance = 0; tolerance <= 9; tolerance++) {
            is("within, above", appealed(tolerance, 2, 2 + tolerance), 2, 2, 2, 0);
            is("apart, above", appealed(tolerance, 2, 3 + tolerance), 3 + tolerance, 2, 2, 0);
            is("within, below", appealed(tolerance, 12, 12 - tolerance), 12, 2, 2, 0);
            is("apart, below", appealed(tolerance, 12, 11 - tolerance), 11 - tolerance, 2, 2, 0);
        }
        ScriptRoom x = appealed(0, 1, 7);
        Check.scheme(x, 0, "a+2b+4c+8d+9e");
        work(x, 0, 3);
        work(x, 2, 12);
        is("the only such one that counts", x, 12, 2, 4, 0);
        Check.scheme(x, 0, "a+2b+4c+8d");
        is("the first of two that count", x, 7, 4, 4, 0);
    }

    private void onlyIfTheMarkIsThere() {
        edges.words("Terms", "With an appeal: if the mark is there, and a reading for the appeal counts");
        ScriptRoom x = appealed(0, 1, 7);
        is("it is there", x, 7, 2, 2, 0);
        x.twice(0, true);
        is("it is not there", x, -1, 2, 2, 1);
        x.twice(0, false);
        Check.scheme(x, 0, "e");
        is("neither counts", x, -1, 0, 2, 1);
        work(x, 0, 16);
        is("none for the appeal counts", x, 1, 1, 3, 1);
    }

    private void forThatAlone() {
        edges.words("Terms", "counts for that alone.");
        ScriptRoom x = appealed(0, 1, 7);
        x.twice(0, true);
        is("it is no second one", x, -1, 2, 2, 1);
        x.reader(-1, 15, false);
        work(x, 3, 5);
        is("it is no third one", x, -1, 3, 3, 1);
        work(x, 2, 2);
        is("a third one, and the appeal's", x, 7, 4, 4, 0);
        x.tolerance(6);
        is("3 of the first two, the appeal's is within", x, 3, 4, 4, 0);
    }

    private void asItIsWhenGiven() {
        edges.words("Terms", "A reading that is given for an appeal, as it is when it is given");
        ScriptRoom x = Edges.room("a+2b+4c", 1, "jss");
        x.twice(0, true);
        x.next(1);
        work(x, 0, 1);
        x.twice(0, false);
        x.release();
        x.appeal(0, 0);
        x.read(1, 7);
        is("given as a second one, it is none for the appeal", x, 1, 2, 2, 1);
        x.tolerance(9);
        x.twice(0, true);
        is("and is a second one", x, 4, 2, 2, 1);
        work(x, 2, 7);
        is("then one for the appeal", x, 4, 3, 3, 0);
        x.tolerance(2);
        is("that counts for the appeal, and is no third one", x, -1, 3, 3, 1);
    }

    // ---- promises

    private void mark() {
        edges.words("Promise 19", "Returns the mark; -1 if it is not there.");
        is("0 is there", pair(0, 0, 0), 0, 2, 2, 0);
        is("not there", pair(0, 0, 1), -1, 2, 2, 1);
        edges.words("Promise 19", "Throws IndexOutOfBoundsException if there is no such pupil or question");
        edges.numbers("pupil", 3, Edges::busy, (x, pupil) -> x.mark(pupil, 0));
        edges.numbers("pupil", 16, Edges::full, (x, pupil) -> x.mark(pupil, 3));
        edges.numbers("question", 4, Edges::busy, (x, question) -> x.mark(2, question));
        edges.refuses("of none", Check.BOUNDS, Edges::room, x -> x.mark(0, 0));
        edges.refuses("neither", Check.BOUNDS, Edges::busy, x -> x.mark(3, 4));
    }

    private void markAnew() {
        edges.words("Promise 20", "Returns the same, found from the log of all readings, the first one first.");
        foundAnew();
        edges.words("Promise 20", "Returns the mark; -1 if it is not there.");
        edges.same("0 is there", pair(0, 0, 0).markAnew(0, 0), 0);
        edges.same("not there", pair(0, 0, 1).markAnew(0, 0), -1);
        edges.words("Promise 20", "Throws IndexOutOfBoundsException if there is no such pupil or question");
        edges.numbers("pupil", 3, Edges::busy, (x, pupil) -> x.markAnew(pupil, 0));
        edges.numbers("pupil", 16, Edges::full, (x, pupil) -> x.markAnew(pupil, 3));
        edges.numbers("question", 4, Edges::busy, (x, question) -> x.markAnew(2, question));
        edges.refuses("of none", Check.BOUNDS, Edges::room, x -> x.markAnew(0, 0));
        edges.refuses("neither", Check.BOUNDS, Edges::busy, x -> x.markAnew(3, 4));
    }

    /** Each question has its own scheme, so that no answer's mark passes for another one's. */
    private void foundAnew() {
        ScriptRoom x = new ScriptRoom();
        String[] texts = {"a", "2a+3b", "5c", "9h<7"};
        for (int question = 0; question < 4; question++) Check.scheme(x, question, texts[question]);
        for (int i = 0; i < 16; i++) x.pupil(0, 0, i == 15);
        x.reader(-1, 15, true);
        for (int i = 0; i < 40; i++) {
            int what = x.next(0);
            int mark = x.read(0, i * 37 % 256);
            edges.same("from a log of " + (i + 1), x.markAnew(what / 10, what % 10), mark);
            edges.same("as mark() tells", x.mark(what / 10, what % 10), mark);
        }
        edges.same("one that was not read", x.markAnew(14, 3), -1);
    }

    private void answer() {
        edges.words("Promise 21", "0 how many readings of it count, 1 how many there are, those for an appeal with both, 2 how many it wants still,"
            + " whoever has it at hand (a third one, and one for an appeal, only as told), 3 whether it was appealed (1 or 0).");
        ScriptRoom x = pair(1, 1, 5);
        x.next(2);
        is("whoever has it at hand", x, -1, 2, 2, 1);
        x.read(2, 3);
        edges.same("not appealed", x.answer(0, 0, 3), 0);
        x.release();
        x.appeal(0, 0);
        edges.same("appealed", x.answer(0, 0, 3), 1);
        x.next(3);
        is("one for the appeal, at hand", x, 3, 3, 3, 1);
        x.read(3, 9);
        is("with both", x, 9, 4, 4, 0);
        edges.same("appealed still", x.answer(0, 0, 3), 1);
        edges.same("another answer is not", x.answer(0, 1, 3), 0);
        edges.words("Promise 21", "what: 0 to 3");
        edges.range("what", 0, 3, Edges::busy, (r, what) -> r.answer(2, 1, what));
        edges.range("what, where there is no answer", 0, 3, Edges::full, (r, what) -> r.answer(1, 0, what));
        edges.words("Promise 21", "Throws IndexOutOfBoundsException if there is no such pupil or question");
        edges.numbers("pupil", 3, Edges::busy, (r, pupil) -> r.answer(pupil, 0, 2));
        edges.numbers("question", 4, Edges::busy, (r, question) -> r.answer(0, question, 1));
        edges.refuses("of none", Check.BOUNDS, Edges::room, r -> r.answer(0, 0, 0));
        edges.refuses("ahead of what: pupil", Check.BOUNDS, Edges::busy, r -> r.answer(3, 0, 4));
        edges.refuses("ahead of what: question", Check.BOUNDS, Edges::busy, r -> r.answer(0, -1, -1));
        edges.words("Promise 21", "Throws IllegalArgumentException if what is out of range");
        edges.refuses("4", Check.ILLEGAL, Edges::released, r -> r.answer(0, 0, 4));
        edges.refuses("-1, where there is no answer", Check.ILLEGAL, Edges::released, r -> r.answer(0, 2, -1));
    }

    private void wanted() {
        edges.words("Promise 28", "Returns how many readings all answers want still, as answer(.., 2) tells.");
        edges.same("of no pupils", new ScriptRoom().wanted(), 0);
        ScriptRoom x = new ScriptRoom();
        for (int i = 0; i < 16; i++) x.pupil(0, i == 15 ? 15 : 0, false);
        edges.same("all", x.wanted(), 60);
        for (int question = 0; question < 4; question++) x.twice(question, true);
        edges.same("all, twice", x.wanted(), 120);
        ScriptRoom y = Edges.busy();
        int sum = 0;
        for (int answer = 0; answer < 12; answer++) sum += y.answer(answer / 4, answer % 4, 2);
        edges.same("as answer tells", y.wanted(), sum);
    }
}
