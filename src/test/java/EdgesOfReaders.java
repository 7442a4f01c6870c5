/** The edges of promises 8 to 12 and 27, and of what the terms say of readers, seeds and what is given. */
final class EdgesOfReaders {
    private static final int NOTHING = ScriptRoom.NONE;

    private final Edges edges;

    EdgesOfReaders(Edges edges) {
        this.edges = edges;
    }

    void all() {
        terms();
        giving();
        seedsAndStops();
        reader();
        seed();
        next();
        read();
        goOn();
        ofReader();
    }

    private static int work(ScriptRoom x, int reader, int points) {
        return Check.work(x, reader, points);
    }

    private static void work(ScriptRoom x, int reader, int points, int times) {
        for (int i = 0; i < times; i++) work(x, reader, points);
    }

    // ---- terms: readers, and what is next

    private void terms() {
        numbersOfReaders();
        nothingAtHand();
        seedElseAnswerElseNothing();
        numbersOfSeeds();
        dueBehindThree();
        dueSinceTheLastSeed();
        dueSinceLetGoOn();
        lowestOfTheirs();
        noSeedIsLeft();
    }

    private void numbersOfReaders() {
        edges.words("Terms", "Readers are numbered from 0, at most 6, each of a school, or none, with a set of questions, senior or not.");
        ScriptRoom x = new ScriptRoom();
        for (int i = 0; i < 6; i++) edges.same("the number", x.reader(i - 1, 1 << i % 4, i % 2 == 0), i);
        for (int i = 0; i < 6; i++) edges.same("each has nothing at hand", x.ofReader(i, 1), NOTHING);
        ScriptRoom y = Edges.room("a", 1, "");
        y.reader(-1, 1, false);
        edges.same("one of no school gets of any school", y.next(0), 0);
    }

    private void nothingAtHand() {
        edges.words("Terms", "A reader who is not stopped, and has nothing at hand, gets what is next");
        ScriptRoom x = Edges.room("a", 2, "j");
        x.pupil(0, 14, true);
        edges.same("what is next", x.next(0), 20);
        x.pupil(0, 14, true);
        edges.same("with something at hand that stays", x.next(0), 20);
        x.read(0, 1);
        edges.same("with nothing at hand", x.next(0), 30);
        edges.refuses("one who is stopped", Check.STATE, Edges::busy, r -> r.next(2));
    }

    private void seedElseAnswerElseNothing() {
        edges.words("Terms", "a seed if one is due, otherwise an answer, or nothing.");
        ScriptRoom x = Edges.room("a", 4, "j");
        x.seed(0, 1);
        for (int i = 0; i < 3; i++) edges.same("an answer while none is due", work(x, 0, 1), 10 * i);
        edges.same("a seed ahead of an answer", work(x, 0, 1), 1000);
        edges.same("an answer again", work(x, 0, 1), 30);
        edges.same("nothing", x.next(0), NOTHING);
        edges.same("nothing still", x.next(0), NOTHING);
        ScriptRoom y = Edges.room("a", 3, "j");
        work(y, 0, 1, 3);
        edges.same("nothing ahead of the seed", y.next(0), NOTHING);
        y.seed(0, 1);
        edges.same("a seed where there is no answer", y.next(0), 1000);
    }

    private void numbersOfSeeds() {
        edges.words("Terms", "Seeds are numbered from 0, at most 8: a question, and the points that are known.");
        ScriptRoom x = new ScriptRoom();
        Check.scheme(x, 0, "a+2b+4c");
        Check.scheme(x, 3, "h");
        for (int i = 0; i < 12; i++) x.pupil(0, 6, false);
        x.reader(-1, 15, false);
        x.tolerance(0);
        for (int i = 0; i < 8; i++) edges.same("the number", x.seed(i == 6 ? 3 : 0, i == 6 ? 128 : i), i);
        for (int i = 0; i < 8; i++) {
            work(x, 0, 0, 3);
            edges.same("the question of seed " + i, x.next(0), i == 6 ? 1003 : 1000);
            edges.same("the points of seed " + i, x.read(0, i == 6 ? 128 : i), i == 6 ? 1 : i);
            edges.same("are those that are known", x.ofReader(0, 0), 0);
        }
        edges.same("eight were given", x.ofReader(0, 5), 8);
    }

    private void dueBehindThree() {
        edges.words("Terms", "One is due if the reader has read 3 answers or more");
        for (int many = 0; many <= 6; many++) {
            ScriptRoom x = Edges.room("a", 8, "j");
            work(x, 0, 1, many);
            x.seed(0, 1);
            edges.same("behind " + many + " answers", x.next(0), many >= 3 ? 1000 : 10 * many);
        }
    }

    private void dueSinceTheLastSeed() {
        edges.words("Terms", "since they read the last seed, or the beginning");
        ScriptRoom x = Edges.room("a", 9, "jj");
        for (int i = 0; i < 3; i++) x.seed(0, 1);
        for (int seeds = 0; seeds < 3; seeds++) {
            for (int i = 0; i < 3; i++) edges.same("no seed is due", work(x, 0, 1) < 1000, true);
            edges.same("a seed is due", work(x, 0, 1), 1000);
        }
        ScriptRoom y = Edges.room("a", 12, "jj");
        y.seed(0, 1);
        work(y, 0, 1, 2);
        work(y, 1, 1, 2);
        edges.same("others' answers are not theirs", work(y, 0, 1), 40);
        edges.same("their own are", y.next(0), 1000);
        edges.same("nor theirs the others'", work(y, 1, 1), 50);
    }

    private void dueSinceLetGoOn() {
        edges.words("Terms", "or since they were let go on");
        ScriptRoom x = Edges.room("3a", 9, "j");
        for (int i = 0; i < 2; i++) x.seed(0, 1);
        work(x, 0, 1, 3);
        edges.same("a bad one", work(x, 0, 0), 1000);
        x.goOn(0);
        for (int i = 0; i < 3; i++) edges.same("none is due since then", work(x, 0, 1), 10 * i);
        edges.same("the next one", x.next(0), 1000);
    }

    private void lowestOfTheirs() {
        edges.words("Terms", "of the seeds of their questions that the reader was not given yet the lowest");
        ScriptRoom x = Check.roomWith("a");
        for (int i = 0; i < 12; i++) x.pupil(0, 13, false);
        x.reader(-1, 2 + 4, false);
        x.reader(-1, 2 + 8, false);
        for (int question : new int[] {0, 3, 2, 1, 1}) x.seed(question, 1);
        work(x, 0, 1, 3);
        edges.same("the lowest of theirs is 2", work(x, 0, 1), 1002);
        work(x, 0, 1, 3);
        edges.same("then 3", work(x, 0, 1), 1001);
        work(x, 1, 1, 3);
        edges.same("the other's is 1", work(x, 1, 1), 1003);
        work(x, 1, 1, 3);
        edges.same("then 3, though the first was given it", work(x, 1, 1), 1001);
        edges.same("two each", x.ofReader(0, 5) * 10 + x.ofReader(1, 5), 22);
    }

    private void noSeedIsLeft() {
        edges.words("Terms", "without one none is due.");
        ScriptRoom x = Check.roomWith("a");
        for (int i = 0; i < 9; i++) x.pupil(0, 14, false);
        x.reader(-1, 1, false);
        x.seed(1, 1);
        work(x, 0, 1, 3);
        edges.same("only a seed of another question", work(x, 0, 1), 30);
        x.seed(0, 1);
        edges.same("one of theirs", work(x, 0, 1), 1000);
        for (int i = 4; i < 9; i++) edges.same("that they were given already", work(x, 0, 1), 10 * i);
    }

    // ---- terms: what can be given

    private void giving() {
        notOfTheirSchool();
        oneOfTheirQuestions();
        withAScheme();
        noReadingOfTheirsCounts();
        moreThanAtHand();
        bySenior();
        forAppealBySenior();
        order();
    }

    private void notOfTheirSchool() {
        edges.words("Terms", "An answer can be given to a reader, if it is not of their school");
        for (int school = -1; school < 5; school++) {
            ScriptRoom x = Check.roomWith("a");
            for (int i = 0; i < 5; i++) x.pupil(i, 14, i == school);
            x.reader(school, 15, true);
            for (int i = 0; i < 5; i++) {
                if (i != school) edges.same("a reader of school " + school, work(x, 0, 1), 10 * i);
            }
            edges.same("then nothing", x.next(0), NOTHING);
            edges.same("their school's is wanted still", x.wanted(), school < 0 ? 0 : 1);
        }
    }

    private void oneOfTheirQuestions() {
        edges.words("Terms", "of one of their questions");
        for (int theirs = 1; theirs < 16; theirs++) {
            ScriptRoom x = Check.roomWith("a");
            x.pupil(0, 0, false);
            x.reader(-1, theirs, true);
            for (int question = 0; question < 4; question++) {
                if ((theirs >> question & 1) != 0) edges.same(theirs + " as bits", work(x, 0, 1), question);
            }
            edges.same(theirs + " as bits, then nothing", x.next(0), NOTHING);
        }
    }

    private void withAScheme() {
        edges.words("Terms", "for which there is a scheme");
        for (int question = 0; question < 4; question++) {
            ScriptRoom x = new ScriptRoom();
            x.pupil(0, 0, false);
            x.reader(-1, 15, true);
            edges.same("without any", x.next(0), NOTHING);
            Check.scheme(x, question, "a+");
            edges.same("with a fault", x.next(0), NOTHING);
            Check.scheme(x, question, "a");
            edges.same("with one", work(x, 0, 1), question);
            edges.same("no other", x.next(0), NOTHING);
        }
    }

    private void noReadingOfTheirsCounts() {
        edges.words("Terms", "if no reading of theirs counts there");
        ScriptRoom x = Edges.room("a", 1, "s");
        x.twice(0, true);
        edges.same("none yet", work(x, 0, 1), 0);
        edges.same("one counts", x.next(0), NOTHING);
        Check.scheme(x, 0, "a+b");
        edges.same("it does not count any more", work(x, 0, 1), 0);
        edges.same("the new one counts", x.next(0), NOTHING);
        Check.scheme(x, 0, "a+c");
        edges.same("neither of two counts", x.next(0), 0);
        ScriptRoom y = Edges.room("3a", 3, "j");
        y.seed(0, 1);
        work(y, 0, 1, 3);
        edges.same("all three count, the seed is read badly", work(y, 0, 0), 1000);
        y.goOn(0);
        edges.same("a void one does not count", y.next(0), 0);
    }

    private void moreThanAtHand() {
        edges.words("Terms", "if it wants more readings than readers have it at hand");
        ScriptRoom x = Edges.room("a", 1, "jjjjs");
        edges.same("1 wanted, 0 at hand", x.next(0), 0);
        edges.same("1 wanted, 1 at hand", x.next(1), NOTHING);
        x.twice(0, true);
        edges.same("2 wanted, 1 at hand", x.next(1), 0);
        edges.same("2 wanted, 2 at hand", x.next(2), NOTHING);
        x.twice(0, false);
        edges.same("1 wanted, 2 at hand", x.next(2), NOTHING);
        x.read(0, 1);
        edges.same("0 wanted, 1 at hand", x.next(2), NOTHING);
        x.twice(0, true);
        edges.same("1 wanted, 1 at hand", x.next(3), NOTHING);
        x.read(1, 1);
        edges.same("0 wanted, 0 at hand", x.next(4), NOTHING);
        ScriptRoom y = Edges.room("a", 2, "jj");
        edges.same("the first one", y.next(0), 0);
        edges.same("another one's hands are free for the next", y.next(1), 10);
    }

    private void bySenior() {
        edges.words("Terms", "and, if it wants one by a senior, if they are one.");
        ScriptRoom x = Edges.room("3a", 1, "jjjss");
        x.twice(0, true);
        edges.same("the first one may be anybody's", work(x, 3, 1), 0);
        edges.same("the second one too", work(x, 0, 0), 0);
        edges.same("a third one is not a junior's", x.next(1), NOTHING);
        edges.same("nor that senior's", x.next(3), NOTHING);
        edges.same("it is the other senior's", x.next(4), 0);
    }

    private void forAppealBySenior() {
        edges.words("Terms", "Once it has all that, it wants, if it was appealed, one by a senior for the appeal.");
        ScriptRoom x = Edges.room("3a", 1, "jjss");
        work(x, 0, 1);
        x.release();
        edges.same("not appealed", x.answer(0, 0, 2), 0);
        edges.same("none is given", x.next(2), NOTHING);
        x.appeal(0, 0);
        edges.same("appealed", x.answer(0, 0, 2), 1);
        edges.same("not to a junior", x.next(1), NOTHING);
        edges.same("to a senior", x.next(2), 0);
        edges.same("once", x.next(3), NOTHING);
        x.twice(0, true);
        edges.same("it lacks a second one first", x.answer(0, 0, 2), 1);
        x.read(2, 1);
        edges.same("and still", x.answer(0, 0, 2), 1);
        edges.same("that may be a junior's", work(x, 1, 1), 0);
        edges.same("then it has all", x.answer(0, 0, 2), 0);
        edges.same("and none is given", x.next(3), NOTHING);
    }

    private void order() {
        edges.words("Terms", "Of these urgent pupils' ones go first, then rising numbers, then questions.");
        ScriptRoom x = Check.roomWith("a");
        for (int i = 0; i < 16; i++) x.pupil(i == 14 ? 1 : 0, i == 15 || i == 2 ? 6 : i == 0 || i == 14 ? 5 : 15, i == 15 || i == 2 || i == 14);
        x.reader(1, 15, false);
        for (int due : new int[] {20, 23, 150, 153, 1, 3, NOTHING}) edges.same("next", work(x, 0, 1), due);
        edges.same("an urgent one of their school is left", x.wanted(), 2);
    }

    // ---- terms: seeds that are read, and stops

    private void seedsAndStops() {
        readWell();
        voidSinceTheBeginning();
        voidSinceTheLastGoodSeed();
        voidSinceLetGoOn();
    }

    private static ScriptRoom behindSeed(int tolerance, int known, int points) {
        ScriptRoom x = Edges.room("a+2b+4c+8d", 9, "jj");
        x.seed(0, known);
        if (tolerance >= 0) x.tolerance(tolerance);
        work(x, 1, 0);
        work(x, 0, 0, 3);
        work(x, 0, points);
        return x;
    }

    private void readWell() {
        edges.words("Terms", "A seed is read well if its mark is within the tolerance of the mark that is known, both by the scheme that holds.");
        for (int tolerance = 0; tolerance <= 9; tolerance++) {
            edges.same("just within", behindSeed(tolerance, 0, tolerance).ofReader(0, 0), 0);
            edges.same("just within, below", behindSeed(tolerance, 15, 15 - tolerance).ofReader(0, 0), 0);
            edges.same("one more", behindSeed(tolerance, 0, tolerance + 1).ofReader(0, 0), 1);
            edges.same("one less", behindSeed(tolerance, 15, 14 - tolerance).ofReader(0, 0), 1);
        }
        edges.same("1 at first", behindSeed(-1, 4, 5).ofReader(0, 0), 0);
        edges.same("not 2 at first", behindSeed(-1, 4, 6).ofReader(0, 0), 1);
        ScriptRoom x = Edges.room("a+2b", 3, "j");
        x.seed(0, 4);
        work(x, 0, 0, 3);
        x.next(0);
        Check.scheme(x, 0, "9c");
        edges.same("by the scheme that holds", x.read(0, 3), 0);
        edges.same("0 is not 9", x.ofReader(0, 0), 1);
    }

    private void stopped(ScriptRoom x, int reader, int read, int areVoid) {
        edges.same("stopped", x.ofReader(reader, 0), 1);
        edges.same("nothing at hand", x.ofReader(reader, 1), NOTHING);
        edges.same("answers that they read", x.ofReader(reader, 2), read);
        edges.same("void ones", x.ofReader(reader, 3), areVoid);
    }

    private void voidSinceTheBeginning() {
        edges.words("Terms", "or the beginning, are void.");
        ScriptRoom x = behindSeed(0, 1, 0);
        stopped(x, 0, 3, 3);
        for (int pupil = 0; pupil < 5; pupil++) {
            edges.same("pupil " + pupil + ", readings", x.answer(pupil, 0, 1), pupil < 4 ? 1 : 0);
            edges.same("pupil " + pupil + ", readings that count", x.answer(pupil, 0, 0), pupil == 0 ? 1 : 0);
        }
        edges.same("the other reader goes on", x.next(1), 10);
    }

    private void voidSinceTheLastGoodSeed() {
        edges.words("Terms", "Otherwise the reader is stopped, and all readings of theirs since the last seed that was read well");
        ScriptRoom x = Edges.room("3a", 9, "j");
        for (int i = 0; i < 2; i++) x.seed(0, 1);
        work(x, 0, 1, 3);
        edges.same("a good one", work(x, 0, 1), 1000);
        edges.same("not stopped", x.ofReader(0, 0), 0);
        work(x, 0, 1, 3);
        edges.same("a bad one", work(x, 0, 0), 1000);
        stopped(x, 0, 6, 3);
        edges.same("the last one ahead of the good seed", x.mark(2, 0), 3);
        edges.same("the first one behind it", x.mark(3, 0), -1);
        edges.same("the last one", x.mark(5, 0), -1);
    }

    private void voidSinceLetGoOn() {
        edges.words("Terms", "or since they were let go on, or the beginning, are void.");
        ScriptRoom x = Edges.room("3a", 9, "jj");
        for (int i = 0; i < 3; i++) x.seed(0, 1);
        work(x, 0, 1, 3);
        work(x, 0, 0);
        work(x, 1, 1, 2);
        x.goOn(0);
        for (int pupil = 2; pupil < 5; pupil++) edges.same("again, and more", work(x, 0, 1), 10 * pupil);
        edges.same("a second bad one", work(x, 0, 0), 1000);
        stopped(x, 0, 6, 6);
        edges.same("the other's are not", x.ofReader(1, 3), 0);
        edges.same("and count", x.mark(0, 0) + x.mark(1, 0), 6);
        edges.same("all in all", x.goOn(0), 6);
    }

    // ---- promises

    private static ScriptRoom readers(int many) {
        ScriptRoom x = new ScriptRoom();
        for (int i = 0; i < many; i++) x.reader(-1, 15, false);
        return x;
    }

    private void reader() {
        edges.words("Promise 8", "school: 0 to 4; -1 for none");
        edges.range("school", -1, 4, Edges::busy, (x, school) -> x.reader(school, 15, true));
        edges.words("Promise 8", "questions: 1 to 15, as bits");
        edges.range("questions", 1, 15, Edges::busy, (x, questions) -> x.reader(0, questions, false));
        edges.words("Promise 8", "Throws IllegalArgumentException if school or questions is out of range");
        edges.refuses("both", Check.ILLEGAL, Edges::busy, x -> x.reader(5, 0, false));
        edges.refuses("both, the other way", Check.ILLEGAL, Edges::busy, x -> x.reader(-2, 16, false));
        edges.refuses("ahead of the full room: school", Check.ILLEGAL, Edges::full, x -> x.reader(5, 1, false));
        edges.refuses("ahead of the full room: questions", Check.ILLEGAL, Edges::full, x -> x.reader(0, 0, false));
        edges.words("Promise 8", "Throws IllegalStateException if there are 6");
        edges.same("a sixth", readers(5).reader(-1, 1, false), 5);
        edges.refuses("a seventh", Check.STATE, () -> readers(6), x -> x.reader(-1, 1, false));
        edges.refuses("a seventh in the full room", Check.STATE, Edges::full, x -> x.reader(4, 15, true));
    }

    private static ScriptRoom seeds(int many) {
        ScriptRoom x = new ScriptRoom();
        Check.scheme(x, 2, "a");
        for (int i = 0; i < many; i++) x.seed(2, 255 - i);
        return x;
    }

    private void seed() {
        edges.words("Promise 9", "points: 0 to 255");
        edges.range("points", 0, 255, Edges::busy, (x, points) -> x.seed(1, points));
        edges.words("Promise 9", "Throws IndexOutOfBoundsException if there is no such question");
        edges.numbers("question", 4, Edges::busy, (x, question) -> x.seed(question, 255));
        edges.refuses("ahead of the points", Check.BOUNDS, Edges::busy, x -> x.seed(4, 256));
        edges.refuses("ahead of the full room", Check.BOUNDS, Edges::full, x -> x.seed(-1, 0));
        edges.words("Promise 9", "Throws IllegalArgumentException if points is out of range");
        edges.refuses("ahead of the full room", Check.ILLEGAL, Edges::full, x -> x.seed(0, 256));
        edges.refuses("ahead of the scheme that there is not", Check.ILLEGAL, Edges::room, x -> x.seed(0, -1));
        edges.words("Promise 9", "Throws IllegalStateException if there are 8, or the question has no scheme");
        edges.same("an eighth", seeds(7).seed(2, 0), 7);
        edges.refuses("a ninth", Check.STATE, () -> seeds(8), x -> x.seed(2, 0));
        edges.refuses("a ninth in the full room", Check.STATE, Edges::full, x -> x.seed(0, 255));
        edges.refuses("both", Check.STATE, () -> seeds(8), x -> x.seed(1, 0));
        for (int q = 0; q < 4; q++) {
            int question = q;
            if (question == 2) edges.allows("with a scheme", () -> seeds(0), x -> x.seed(question, 0));
            else edges.refuses("no scheme of " + question, Check.STATE, () -> seeds(0), x -> x.seed(question, 0));
        }
        edges.refuses("a fault is no scheme", Check.STATE, EdgesOfReaders::withAFault, x -> x.seed(1, 0));
    }

    private static ScriptRoom withAFault() {
        ScriptRoom x = new ScriptRoom();
        Check.scheme(x, 1, "a+");
        return x;
    }

    private void next() {
        edges.words("Promise 10", "if the reader has something at hand, that stays.");
        ScriptRoom x = Edges.busy();
        for (int i = 0; i < 3; i++) {
            edges.same("an answer", x.next(0), 23);
            edges.same("a seed", x.next(1), 1000);
            edges.same("given once", x.ofReader(1, 5), 1);
        }
        edges.words("Promise 10", "Returns 10 times the pupil, and the question, together; 1000 and the question for a seed; -1 for nothing.");
        codes();
        edges.words("Promise 10", "Throws IndexOutOfBoundsException if there is no such reader");
        edges.numbers("reader", 6, Edges::full, ScriptRoom::next);
        edges.refuses("of none", Check.BOUNDS, Edges::room, r -> r.next(0));
        edges.refuses("of five", Check.BOUNDS, Edges::busy, r -> r.next(5));
        edges.words("Promise 10", "Throws IllegalStateException if the reader is stopped");
        edges.refuses("who is stopped", Check.STATE, Edges::busy, r -> r.next(2));
        edges.allows("who has something at hand", Edges::busy, r -> r.next(0));
        edges.allows("for whom there is nothing", () -> readers(1), r -> r.next(0));
        ScriptRoom y = Edges.busy();
        y.goOn(2);
        edges.same("who was let go on", y.next(2), 0);
    }

    private void codes() {
        for (int question = 0; question < 4; question++) {
            ScriptRoom x = Check.roomWith("a");
            for (int i = 0; i < 16; i++) x.pupil(0, i % 15 == 0 || i == 1 ? 15 - (1 << question) : 15, false);
            x.reader(-1, 15, false);
            x.seed(question, 1);
            edges.same("of pupil 0", work(x, 0, 1), question);
            edges.same("of pupil 1", work(x, 0, 1), 10 + question);
            edges.same("of pupil 15", work(x, 0, 1), 150 + question);
            edges.same("a seed", work(x, 0, 1), 1000 + question);
            edges.same("nothing", x.next(0), -1);
        }
        edges.same("nothing without pupils", readers(1).next(0), -1);
    }

    private void read() {
        edges.words("Promise 11", "points: 0 to 255: those that are found; those that are no letters of the scheme are left out");
        edges.range("points of an answer", 0, 255, Edges::busy, (x, points) -> x.read(0, points));
        edges.range("points of a seed", 0, 255, Edges::busy, (x, points) -> x.read(1, points));
        for (int points : new int[] {0, 1, 2, 4, 128, 252, 253, 254, 255}) {
            ScriptRoom x = Edges.room("3a+2h", 1, "j");
            x.next(0);
            edges.same(points + " found", x.read(0, points), 3 * (points & 1) + 2 * (points >> 7));
        }
        edges.words("Promise 11", "Throws IndexOutOfBoundsException if there is no such reader");
        edges.numbers("reader", 6, EdgesOfReaders::allWithSomething, (x, reader) -> x.read(reader, 0));
        edges.refuses("of none", Check.BOUNDS, Edges::room, x -> x.read(0, 0));
        edges.refuses("ahead of the points", Check.BOUNDS, Edges::busy, x -> x.read(5, 256));
        edges.words("Promise 11", "Throws IllegalArgumentException if points is out of range");
        edges.refuses("256, with an answer at hand", Check.ILLEGAL, Edges::busy, x -> x.read(0, 256));
        edges.refuses("-1, with a seed at hand", Check.ILLEGAL, Edges::busy, x -> x.read(1, -1));
        edges.refuses("ahead of the empty hand", Check.ILLEGAL, Edges::busy, x -> x.read(3, 256));
        edges.refuses("ahead of the empty hand of who is stopped", Check.ILLEGAL, Edges::busy, x -> x.read(2, -1));
        edges.words("Promise 11", "Throws IllegalStateException if nothing is at hand");
        edges.refuses("a new reader", Check.STATE, Edges::busy, x -> x.read(3, 0));
        edges.refuses("one who is stopped", Check.STATE, Edges::busy, x -> x.read(2, 0));
        edges.refuses("one who has read", Check.STATE, Edges::busy, x -> x.read(4, 0));
        edges.refuses("one for whom there was nothing", Check.STATE, () -> readers(1), x -> x.read(0, 0));
        edges.words("Promise 11", "or that is an answer, and there are 300 readings");
        fullLog();
    }

    /** Lies beyond the 512 calls, where answers are free: each reading takes two. The room keeps it all the same. */
    private void fullLog() {
        edges.allows("a 300th", () -> LimitTest.logged(299), x -> x.read(0, 0));
        edges.refuses("a 301st", Check.STATE, () -> LimitTest.logged(300), x -> x.read(0, 0));
        edges.refuses("a 301st by another", Check.STATE, () -> LimitTest.logged(300), x -> x.read(1, 255));
        edges.refuses("the points come first", Check.ILLEGAL, () -> LimitTest.logged(300), x -> x.read(0, 256));
        edges.same("a seed all the same", LimitTest.logged(300).read(2, 255), 1);
    }

    private static ScriptRoom allWithSomething() {
        ScriptRoom x = Edges.room("a", 6, "jsjsjs");
        for (int reader = 0; reader < 6; reader++) x.next(reader);
        return x;
    }

    private void goOn() {
        edges.words("Promise 12", "Returns how many readings of theirs are void, all in all.");
        ScriptRoom x = Edges.room("3a", 16, "jj");
        for (int i = 0; i < 3; i++) x.seed(0, 1);
        work(x, 1, 1, 3);
        work(x, 1, 0);
        for (int due = 3; due <= 9; due += 3) {
            work(x, 0, 1, 3);
            work(x, 0, 0);
            edges.same("theirs alone", x.goOn(0), due);
        }
        edges.same("the other's alone", x.goOn(1), 3);
        edges.words("Promise 12", "Throws IndexOutOfBoundsException if there is no such reader");
        edges.numbers("reader", 6, EdgesOfReaders::allStopped, ScriptRoom::goOn);
        edges.refuses("of none", Check.BOUNDS, Edges::room, r -> r.goOn(0));
        edges.words("Promise 12", "Throws IllegalStateException if the reader is not stopped");
        edges.allows("who is stopped", Edges::busy, r -> r.goOn(2));
        for (int reader : new int[] {0, 1, 3, 4}) edges.refuses("reader " + reader, Check.STATE, Edges::busy, r -> r.goOn(reader));
        edges.refuses("who was let go on", Check.STATE, EdgesOfReaders::letGoOn, r -> r.goOn(2));
    }

    private static ScriptRoom letGoOn() {
        ScriptRoom x = Edges.busy();
        x.goOn(2);
        return x;
    }

    private static ScriptRoom allStopped() {
        ScriptRoom x = Edges.room("3a", 16, "jjjjjj");
        x.seed(0, 1);
        for (int reader = 0; reader < 6; reader++) {
            work(x, reader, 1, 3);
            work(x, reader, 0);
        }
        return x;
    }

    private void isTold(ScriptRoom x, int reader, int... due) {
        for (int what = 0; what < due.length; what++) edges.same("reader " + reader + ", " + what, x.ofReader(reader, what), due[what]);
    }

    private void ofReader() {
        edges.words("Promise 27", "0 whether they are stopped (1 or 0), 1 what is at hand, as next() tells, -1 for nothing, 2 how many answers they"
            + " read, 3 how many of these readings are void, 4 how many since the last seed, as told, 5 how many seeds they were given.");
        ScriptRoom x = Edges.busy();
        isTold(x, 0, 0, 23, 0, 0, 0, 0);
        isTold(x, 1, 0, 1000, 3, 0, 3, 1);
        isTold(x, 2, 1, -1, 3, 3, 0, 1);
        isTold(x, 3, 0, -1, 0, 0, 0, 0);
        isTold(x, 4, 0, -1, 1, 0, 1, 0);
        x.goOn(2);
        isTold(x, 2, 0, -1, 3, 3, 0, 1);
        work(x, 2, 0);
        isTold(x, 2, 0, -1, 4, 3, 1, 1);
        x.read(1, 3);
        isTold(x, 1, 0, -1, 3, 0, 0, 1);
        edges.words("Promise 27", "what: 0 to 5");
        edges.range("what", 0, 5, Edges::busy, (r, what) -> r.ofReader(2, what));
        edges.words("Promise 27", "Throws IndexOutOfBoundsException if there is no such reader");
        edges.numbers("reader", 5, Edges::busy, (r, reader) -> r.ofReader(reader, 0));
        edges.numbers("reader", 6, Edges::full, (r, reader) -> r.ofReader(reader, 5));
        edges.refuses("of none", Check.BOUNDS, Edges::room, r -> r.ofReader(0, 0));
        edges.refuses("ahead of what", Check.BOUNDS, Edges::busy, r -> r.ofReader(5, 6));
        edges.words("Promise 27", "Throws IllegalArgumentException if what is out of range");
        edges.refuses("6", Check.ILLEGAL, Edges::full, r -> r.ofReader(5, 6));
        edges.refuses("-1", Check.ILLEGAL, Edges::full, r -> r.ofReader(0, -1));
    }
}
