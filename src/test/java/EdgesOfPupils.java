/** The edges of promises 1 to 3, 6 and 7, and of what the terms say of papers and pupils. */
final class EdgesOfPupils {
    private final Edges edges;

    EdgesOfPupils(Edges edges) {
        this.edges = edges;
    }

    void all() {
        questions();
        numbersOfPupils();
        schools();
        setsOfQuestions();
        urgent();
        giftAtFirst();
        newObject();
        pupilSchool();
        pupilLacks();
        pupilOutOfRange();
        pupilSeventeenth();
        giftMarks();
        giftReturnsWhatItWas();
        giftNoSuchPupil();
        giftOutOfRange();
        twiceReturnsWhatItWas();
        twiceNoSuchQuestion();
        toleranceMarks();
        toleranceReturnsWhatItWas();
        toleranceOutOfRange();
    }

    private static ScriptRoom pupils(int many) {
        ScriptRoom x = new ScriptRoom();
        for (int i = 0; i < many; i++) x.pupil(0, 15, false);
        return x;
    }

    private void questions() {
        edges.words("Terms", "A paper has the questions 0 to 3.");
        ScriptRoom x = new ScriptRoom();
        x.pupil(0, 0, false);
        edges.same("answers that want a reading", x.wanted(), 4);
        for (int question = 0; question < 4; question++) edges.same("question " + question, x.answer(0, question, 2), 1);
        edges.numbers("question", 4, Edges::busy, (r, question) -> r.mark(0, question));
    }

    private void numbersOfPupils() {
        edges.words("Terms", "Pupils are numbered from 0, at most 16");
        ScriptRoom x = new ScriptRoom();
        for (int i = 0; i < 16; i++) {
            edges.same("the number", x.pupil(4, 15, true), i);
            edges.same("the gift of pupil " + i, x.gift(i, i % 10), 0);
        }
        for (int i = 0; i < 16; i++) edges.same("the total of pupil " + i, x.total(i), i % 10);
    }

    private void schools() {
        edges.words("Terms", "each of a school, 0 to 4");
        for (int school = 0; school < 5; school++) {
            ScriptRoom x = new ScriptRoom();
            Check.scheme(x, 0, "a");
            x.pupil(school, 14, false);
            for (int other = 0; other < 5; other++) x.reader(other, 15, true);
            edges.same("a reader of the same school", x.next(school), -1);
            edges.same("a reader of another school", x.next((school + 1) % 5), 0);
        }
    }

    private void setsOfQuestions() {
        edges.words("Terms", "with a set of questions for which there is no answer");
        for (int lacks = 0; lacks < 16; lacks++) {
            ScriptRoom x = Check.roomWith("a");
            x.pupil(0, lacks, false);
            x.reader(-1, 15, true);
            for (int question = 0; question < 4; question++) {
                boolean isThere = (lacks & 1 << question) == 0;
                edges.same(lacks + " as bits, wanted of " + question, x.answer(0, question, 2), isThere ? 1 : 0);
                if (isThere) edges.same(lacks + " as bits, given", Check.work(x, 0, 1), question);
                edges.same(lacks + " as bits, the mark of " + question, x.mark(0, question), isThere ? 1 : 0);
            }
            edges.same(lacks + " as bits, nothing is left", x.next(0), -1);
        }
    }

    private void urgent() {
        edges.words("Terms", "urgent or not");
        for (boolean isUrgent : new boolean[] {false, true}) {
            ScriptRoom x = Edges.room("a", 1, "j");
            x.pupil(0, 14, isUrgent);
            edges.same("the first one given", x.next(0), isUrgent ? 10 : 0);
        }
    }

    private void giftAtFirst() {
        edges.words("Terms", "a gift of marks, 0 to 9, 0 at first.");
        ScriptRoom x = pupils(16);
        for (int i = 0; i < 16; i++) {
            edges.same("at first", x.total(i), 0);
            edges.same("the gift at first", x.gift(i, 9), 0);
            edges.same("the most", x.total(i), 9);
        }
    }

    private void newObject() {
        edges.words("Promise 1", "No pupils, schemes, readers and seeds; all lines 0.");
        edges.refuses("a pupil", Check.BOUNDS, Edges::room, x -> x.total(0));
        for (int q = 0; q < 4; q++) {
            int question = q;
            edges.same("schemes", new ScriptRoom().versions(question), 0);
            edges.refuses("a scheme", Check.BOUNDS, Edges::room, x -> x.markOf(question, 0, 0));
        }
        edges.refuses("a reader", Check.BOUNDS, Edges::room, x -> x.next(0));
        ScriptRoom x = new ScriptRoom();
        Check.scheme(x, 0, "a");
        edges.same("the first seed", x.seed(0, 0), 0);
        edges.same("the first pupil", x.pupil(0, 15, false), 0);
        edges.same("the first reader", x.reader(0, 15, false), 0);
        edges.same("a total of 0 is on the first line", x.grade(0, false), 3);
        edges.same("nothing is released", x.grade(0, true), -1);
        edges.same("the grade is above 0", x.release(), 1);
    }

    private void pupilSchool() {
        edges.words("Promise 2", "school: 0 to 4");
        edges.range("school", 0, 4, Edges::busy, (x, school) -> x.pupil(school, 0, false));
    }

    private void pupilLacks() {
        edges.words("Promise 2", "lacks: 0 to 15");
        edges.range("lacks", 0, 15, Edges::busy, (x, lacks) -> x.pupil(0, lacks, true));
    }

    private void pupilOutOfRange() {
        edges.words("Promise 2", "Throws IllegalArgumentException if school or lacks is out of range");
        edges.refuses("both", Check.ILLEGAL, Edges::busy, x -> x.pupil(5, 16, false));
        edges.refuses("both, below", Check.ILLEGAL, Edges::busy, x -> x.pupil(-1, -1, false));
        edges.refuses("ahead of the full room: school", Check.ILLEGAL, Edges::full, x -> x.pupil(5, 0, false));
        edges.refuses("ahead of the full room: lacks", Check.ILLEGAL, Edges::full, x -> x.pupil(0, 16, false));
    }

    private void pupilSeventeenth() {
        edges.words("Promise 2", "Throws IllegalStateException if there are 16");
        edges.allows("a 16th", () -> pupils(15), x -> x.pupil(4, 15, true));
        edges.refuses("a 17th", Check.STATE, () -> pupils(16), x -> x.pupil(4, 15, true));
        edges.refuses("a 17th, the first one's like", Check.STATE, Edges::full, x -> x.pupil(0, 0, false));
    }

    private void giftMarks() {
        edges.words("Promise 3", "marks: 0 to 9");
        edges.range("marks", 0, 9, Edges::busy, (x, marks) -> x.gift(1, marks));
        ScriptRoom x = pupils(1);
        for (int marks = 9; marks >= 0; marks--) {
            x.gift(0, marks);
            edges.same("the total", x.total(0), marks);
        }
    }

    private void giftReturnsWhatItWas() {
        edges.words("Promise 3", "Returns what it was.");
        ScriptRoom x = pupils(2);
        edges.same("0 at first", x.gift(1, 0), 0);
        edges.same("0 again", x.gift(1, 9), 0);
        edges.same("9", x.gift(1, 9), 9);
        edges.same("9 again", x.gift(1, 0), 9);
        edges.same("the other one's", x.gift(0, 9), 0);
    }

    private void giftNoSuchPupil() {
        edges.words("Promise 3", "Throws IndexOutOfBoundsException if there is no such pupil");
        edges.numbers("pupil", 3, Edges::busy, (x, pupil) -> x.gift(pupil, 9));
        edges.numbers("pupil", 16, Edges::full, (x, pupil) -> x.gift(pupil, 0));
        edges.refuses("of none", Check.BOUNDS, Edges::room, x -> x.gift(0, 0));
        edges.refuses("ahead of the marks", Check.BOUNDS, Edges::busy, x -> x.gift(3, 10));
    }

    private void giftOutOfRange() {
        edges.words("Promise 3", "Throws IllegalArgumentException if marks is out of range");
        edges.refuses("10", Check.ILLEGAL, Edges::released, x -> x.gift(0, 10));
        edges.refuses("-1", Check.ILLEGAL, Edges::released, x -> x.gift(1, -1));
    }

    private void twiceReturnsWhatItWas() {
        edges.words("Promise 6", "Returns whether it was.");
        for (int question = 0; question < 4; question++) {
            ScriptRoom x = new ScriptRoom();
            edges.same("not at first", x.twice(question, false), false);
            edges.same("not yet", x.twice(question, true), false);
            edges.same("the others are not", x.twice((question + 1) % 4, false), false);
            edges.same("it was", x.twice(question, true), true);
            edges.same("it was still", x.twice(question, false), true);
            edges.same("not any more", x.twice(question, false), false);
        }
    }

    private void twiceNoSuchQuestion() {
        edges.words("Promise 6", "Throws IndexOutOfBoundsException if there is no such question");
        edges.numbers("question", 4, Edges::busy, (x, question) -> x.twice(question, true));
        edges.numbers("question", 4, Edges::room, (x, question) -> x.twice(question, false));
    }

    private void toleranceMarks() {
        edges.words("Promise 7", "marks: 0 to 9");
        edges.range("marks", 0, 9, Edges::busy, ScriptRoom::tolerance);
    }

    private void toleranceReturnsWhatItWas() {
        edges.words("Promise 7", "Returns what it was.");
        ScriptRoom x = new ScriptRoom();
        edges.same("1 at first", x.tolerance(1), 1);
        edges.same("1 again", x.tolerance(0), 1);
        edges.same("0", x.tolerance(9), 0);
        edges.same("9", x.tolerance(9), 9);
        edges.same("another room's", new ScriptRoom().tolerance(0), 1);
    }

    private void toleranceOutOfRange() {
        edges.words("Promise 7", "Throws IllegalArgumentException if marks is out of range");
        edges.refuses("10", Check.ILLEGAL, Edges::room, x -> x.tolerance(10));
        edges.refuses("-1", Check.ILLEGAL, Edges::released, x -> x.tolerance(-1));
    }
}
