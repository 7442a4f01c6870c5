/** The edges of promises 13 to 15 and 22 to 26, and of what the terms say of totals, lines and grades. */
final class EdgesOfRelease {
    private final Edges edges;

    EdgesOfRelease(Edges edges) {
        this.edges = edges;
    }

    void all() {
        theBetterOne();
        allFourMarks();
        leastTotalOfAShare();
        eachAtMostTheOneAhead();
        gradesOfLines();
        keepAllGrades();
        lines();
        linesReturn();
        linesReleased();
        release();
        releaseThrows();
        appeal();
        total();
        gradeReleased();
        gradeReturns();
        changed();
        changedAheadOfIt();
        lineOf();
        lineAnew();
    }

    // ---- terms

    private static ScriptRoom marked(int gift, int... points) {
        ScriptRoom x = Check.roomWith("a+2b+4c");
        x.pupil(0, 0, false);
        x.gift(0, gift);
        x.reader(-1, 15, false);
        for (int found : points) Check.work(x, 0, found);
        return x;
    }

    private void theBetterOne() {
        edges.words("Terms", "A total is that of the questions 0 and 1, and the better one of 2 and 3, and the gift, together");
        edges.same("the third", marked(0, 1, 2, 5, 4).total(0), 8);
        edges.same("the fourth", marked(0, 1, 2, 4, 5).total(0), 8);
        edges.same("equal ones", marked(0, 1, 2, 4, 4).total(0), 7);
        edges.same("0 is there", marked(0, 0, 0, 0, 0).total(0), 0);
        edges.same("with a gift", marked(9, 7, 7, 7, 7).total(0), 30);
        ScriptRoom x = Check.roomWith("9(9a)+9(2a)");
        x.pupil(0, 0, false);
        x.reader(-1, 15, false);
        for (int i = 0; i < 4; i++) Check.work(x, 0, 1);
        x.gift(0, 9);
        edges.same("the most that there is", x.total(0), 306);
        ScriptRoom y = Check.roomWith("5a");
        y.pupil(0, 4, false);
        y.reader(-1, 15, false);
        for (int i = 0; i < 3; i++) Check.work(y, 0, 1);
        edges.same("better than no answer", y.total(0), 15);
    }

    private void allFourMarks() {
        edges.words("Terms", "it is there if all four marks are.");
        for (int lacking = 1; lacking < 16; lacking++) {
            ScriptRoom x = new ScriptRoom();
            x.pupil(0, 15 - lacking, false);
            edges.same("not there are, as bits, " + lacking, x.total(0), -1);
        }
        edges.same("one is not there", marked(0, 7, 7, 7).total(0), -1);
        edges.same("all are", marked(0, 7, 7, 7, 0).total(0), 21);
    }

    private void isLine(ScriptRoom x, int share, int due) {
        edges.same("lineOf(" + share + ")", x.lineOf(share), due);
        edges.same("lineAnew(" + share + ")", x.lineAnew(share), due);
    }

    private void leastTotalOfAShare() {
        edges.words("Terms", "The line of a share is the least total, from 0 to 999, that as many pupils have, or more, as that their number times 100"
            + " is at most the share times all pupils whose total is there.");
        ScriptRoom three = Edges.totals(2, 5, 9);
        int[][] due = {{0, 10}, {1, 10}, {32, 10}, {33, 10}, {34, 6}, {65, 6}, {66, 6}, {67, 3}, {99, 3}, {100, 0}};
        for (int[] d : due) isLine(three, d[0], d[1]);
        ScriptRoom four = Edges.totals(0, 3, 3, 3);
        for (int[] d : new int[][] {{0, 4}, {74, 4}, {75, 1}, {99, 1}, {100, 0}}) isLine(four, d[0], d[1]);
        ScriptRoom sixteen = Edges.totals(9, 9, 9, 9, 9, 9, 9, 9, 9, 9, 9, 9, 9, 9, 9, 8);
        for (int[] d : new int[][] {{93, 10}, {94, 9}, {99, 9}, {100, 0}}) isLine(sixteen, d[0], d[1]);
        four.pupil(0, 0, false);
        isLine(four, 75, 1);
        isLine(four, 74, 4);
        isLine(Edges.totals(0), 99, 1);
        isLine(Edges.totals(0), 100, 0);
        ScriptRoom most = Check.roomWith("9(9a)+9(2a)");
        most.pupil(0, 0, false);
        most.reader(-1, 15, false);
        for (int i = 0; i < 4; i++) Check.work(most, 0, 1);
        most.gift(0, 9);
        isLine(most, 99, 307);
        isLine(most, 100, 0);
    }

    private void eachAtMostTheOneAhead() {
        edges.words("Terms", "There are three lines, a first, a second and a third one, each at most the one ahead");
        int[][] taken = {{0, 0, 0}, {5, 5, 5}, {5, 5, 0}, {5, 0, 0}, {5, 4, 3}, {999, 999, 999}, {999, 0, 0}};
        for (int[] t : taken) edges.allows(t[0] + ", " + t[1] + ", " + t[2], Edges::busy, x -> x.lines(t[0], t[1], t[2]));
        int[][] refused = {{0, 1, 0}, {0, 0, 1}, {5, 6, 6}, {5, 6, 5}, {5, 5, 6}, {5, 4, 5}, {999, 1000, 0}, {998, 999, 0}, {999, 998, 999}};
        for (int[] r : refused) edges.refuses(r[0] + ", " + r[1] + ", " + r[2], Check.ILLEGAL, Edges::busy, x -> x.lines(r[0], r[1], r[2]));
    }

    private void gradesOfLines() {
        edges.words("Terms", "a grade is 3 with a total of the first or more, 2 with the second, 1 with the third, otherwise 0.");
        ScriptRoom x = Edges.totals(0, 1, 2, 3, 4, 5, 6, 7, 8, 9);
        x.lines(7, 4, 2);
        int[] due = {0, 0, 1, 1, 2, 2, 2, 3, 3, 3};
        for (int pupil = 0; pupil < 10; pupil++) edges.same("a total of " + pupil, x.grade(pupil, false), due[pupil]);
        x.lines(5, 5, 5);
        for (int pupil = 0; pupil < 10; pupil++) edges.same("one line, a total of " + pupil, x.grade(pupil, false), pupil < 5 ? 0 : 3);
        x.lines(999, 1, 0);
        for (int pupil = 0; pupil < 10; pupil++) edges.same("a third line of 0, a total of " + pupil, x.grade(pupil, false), pupil < 1 ? 1 : 2);
    }

    private void keepAllGrades() {
        edges.words("Terms", "To release is to keep all grades; lines cannot be told any more.");
        ScriptRoom x = Edges.totals(0, 3, 6, 9);
        x.lines(7, 5, 2);
        x.release();
        for (int pupil = 0; pupil < 4; pupil++) x.gift(pupil, 9 - 3 * pupil);
        for (int pupil = 0; pupil < 4; pupil++) {
            edges.same("released, pupil " + pupil, x.grade(pupil, true), pupil);
            edges.same("now, pupil " + pupil, x.grade(pupil, false), 3 - pupil);
        }
        edges.refuses("lines", Check.STATE, Edges::released, r -> r.lines(13, 12, 3));
    }

    // ---- promises

    private void lines() {
        edges.words("Promise 13", "first: 0 to 999");
        edges.range("first", 0, 999, Edges::busy, (x, first) -> x.lines(first, 0, 0));
        edges.words("Promise 13", "second: 0 to first");
        edges.range("second", 0, 7, Edges::busy, (x, second) -> x.lines(7, second, 0));
        edges.range("second", 0, 0, Edges::busy, (x, second) -> x.lines(0, second, 0));
        edges.range("second", 0, 999, Edges::busy, (x, second) -> x.lines(999, second, 0));
        edges.words("Promise 13", "third: 0 to second");
        edges.range("third", 0, 3, Edges::busy, (x, third) -> x.lines(7, 3, third));
        edges.range("third", 0, 0, Edges::busy, (x, third) -> x.lines(7, 0, third));
        edges.range("third", 0, 999, Edges::busy, (x, third) -> x.lines(999, 999, third));
        edges.words("Promise 13", "Throws IllegalArgumentException if an argument is out of range");
        edges.refuses("all", Check.ILLEGAL, Edges::busy, x -> x.lines(-1, -1, -1));
        edges.refuses("all, above", Check.ILLEGAL, Edges::busy, x -> x.lines(1000, 1000, 1000));
        edges.refuses("ahead of the release", Check.ILLEGAL, Edges::released, x -> x.lines(1000, 0, 0));
        edges.refuses("ahead of the release: second", Check.ILLEGAL, Edges::released, x -> x.lines(5, 6, 0));
        edges.refuses("ahead of the release: third", Check.ILLEGAL, Edges::released, x -> x.lines(5, 5, -1));
    }

    private void linesReturn() {
        edges.words("Promise 13", "Returns how many pupils whose total is there have the grade 3 then.");
        ScriptRoom x = Edges.totals(0, 3, 6, 9);
        x.pupil(0, 0, false);
        edges.same("without pupils", new ScriptRoom().lines(0, 0, 0), 0);
        edges.same("all whose total is there", x.lines(0, 0, 0), 4);
        edges.same("one on the line", x.lines(9, 9, 9), 1);
        edges.same("one is below", x.lines(1, 0, 0), 3);
        edges.same("the grade 3 alone", x.lines(7, 6, 3), 1);
        edges.same("none", x.lines(10, 0, 0), 0);
        edges.same("none, 999", x.lines(999, 0, 0), 0);
    }

    private void linesReleased() {
        edges.words("Promise 13", "Throws IllegalStateException if it was released");
        edges.refuses("the same lines", Check.STATE, Edges::released, x -> x.lines(13, 12, 3));
        edges.refuses("all 0", Check.STATE, Edges::released, x -> x.lines(0, 0, 0));
        ScriptRoom x = new ScriptRoom();
        edges.behind(Check.STATE, () -> x, ScriptRoom::release);
        edges.same("a release that was refused is none", x.lines(5, 5, 5), 0);
    }

    private void release() {
        edges.words("Promise 14", "Returns how many pupils have a grade above 0.");
        ScriptRoom x = Edges.totals(0, 1, 2, 3, 4);
        x.lines(4, 3, 2);
        edges.same("the grades 3, 2, 1", x.release(), 3);
        ScriptRoom y = Edges.totals(0, 1, 2);
        y.lines(3, 3, 3);
        edges.same("none", y.release(), 0);
        edges.same("all of 16", Edges.totals(0, 0, 0, 0, 0, 0, 0, 0, 0, 0, 0, 0, 0, 0, 0, 0).release(), 16);
        ScriptRoom z = Edges.totals(8);
        z.lines(9, 9, 8);
        edges.same("on the third line", z.release(), 1);
    }

    private void releaseThrows() {
        edges.words("Promise 14", "Throws IllegalStateException if it was released, there is no pupil, or a total is not there");
        edges.refuses("it was released", Check.STATE, Edges::released, ScriptRoom::release);
        edges.refuses("there is no pupil", Check.STATE, Edges::room, ScriptRoom::release);
        edges.refuses("totals are not there", Check.STATE, Edges::busy, ScriptRoom::release);
        for (int lacking = 0; lacking < 4; lacking++) {
            int which = lacking;
            edges.refuses("the total of pupil " + which, Check.STATE, () -> allBut(which), ScriptRoom::release);
        }
        edges.allows("all are there", () -> allBut(4), ScriptRoom::release);
        edges.allows("one pupil", () -> Edges.totals(0), ScriptRoom::release);
        ScriptRoom x = edges.behind(Check.STATE, Edges::room, ScriptRoom::release);
        x.pupil(0, 15, false);
        edges.same("behind one that was refused", x.release(), 1);
    }

    /** Four pupils; one of them has no total. */
    private static ScriptRoom allBut(int which) {
        ScriptRoom x = new ScriptRoom();
        for (int i = 0; i < 4; i++) x.pupil(0, i == which ? 7 : 15, false);
        return x;
    }

    private void appeal() {
        edges.words("Promise 15", "Throws IndexOutOfBoundsException if there is no such pupil or question");
        edges.numbers("pupil", 2, EdgesOfRelease::forAppeals, (x, pupil) -> x.appeal(pupil, 0));
        edges.numbers("question", 4, EdgesOfRelease::forAppeals, (x, question) -> x.appeal(0, question));
        edges.refuses("of none", Check.BOUNDS, Edges::room, x -> x.appeal(0, 0));
        edges.refuses("ahead of the release: pupil", Check.BOUNDS, Edges::busy, x -> x.appeal(3, 0));
        edges.refuses("ahead of the release: question", Check.BOUNDS, Edges::busy, x -> x.appeal(0, -1));
        edges.words("Promise 15", "Throws IllegalStateException if it was not released, there is no answer, it was appealed already,"
            + " or its mark is not there");
        edges.refuses("not released", Check.STATE, EdgesOfRelease::notReleased, x -> x.appeal(0, 0));
        edges.refuses("no answer", Check.STATE, Edges::released, x -> x.appeal(0, 3));
        edges.refuses("no answer, though there are others' to it", Check.STATE, EdgesOfRelease::forAppeals, x -> x.appeal(1, 3));
        edges.refuses("appealed already", Check.STATE, Edges::released, x -> x.appeal(0, 0));
        edges.refuses("the mark is not there", Check.STATE, EdgesOfRelease::markGone, x -> x.appeal(0, 1));
        edges.allows("another question", Edges::released, x -> x.appeal(0, 1));
        edges.allows("another pupil", Edges::released, x -> x.appeal(1, 0));
        edges.words("Promise 15", "Returns the mark.");
        edges.same("5", Edges.released().appeal(0, 1), 5);
        edges.same("3", Edges.released().appeal(1, 0), 3);
    }

    /** Released; pupil 0 has all answers, and pupil 1 one, with marks that differ. */
    private static ScriptRoom forAppeals() {
        ScriptRoom x = Check.roomWith("a+2b+4c");
        x.pupil(0, 0, false);
        x.pupil(0, 14, false);
        x.reader(-1, 15, true);
        for (int points = 1; points <= 5; points++) Check.work(x, 0, points);
        x.release();
        return x;
    }

    private static ScriptRoom notReleased() {
        return marked(0, 1, 2, 3, 4);
    }

    private static ScriptRoom markGone() {
        ScriptRoom x = Edges.released();
        Check.scheme(x, 1, "h");
        return x;
    }

    private void total() {
        edges.words("Promise 22", "Returns the total; -1 if it is not there.");
        edges.same("0 is there", Edges.totals(0).total(0), 0);
        edges.same("not there", marked(9).total(0), -1);
        edges.words("Promise 22", "Throws IndexOutOfBoundsException if there is no such pupil");
        edges.numbers("pupil", 3, Edges::busy, ScriptRoom::total);
        edges.numbers("pupil", 16, Edges::full, ScriptRoom::total);
        edges.refuses("of none", Check.BOUNDS, Edges::room, x -> x.total(0));
    }

    private void gradeReleased() {
        edges.words("Promise 23", "released: whether that which was released; otherwise that of now");
        ScriptRoom x = Edges.released();
        x.gift(1, 9);
        edges.same("which was released", x.grade(1, true), 1);
        edges.same("of now", x.grade(1, false), 2);
        Check.scheme(x, 0, "h");
        edges.same("which was released, where no total is there", x.grade(0, true), 2);
        edges.same("of now, where no total is there", x.grade(0, false), -1);
    }

    private void gradeReturns() {
        edges.words("Promise 23", "Returns 0 to 3; -1 if the total is not there, or none was released for the pupil.");
        ScriptRoom x = Edges.totals(0, 1, 2, 3);
        x.lines(3, 2, 1);
        for (int pupil = 0; pupil < 4; pupil++) {
            edges.same("0 to 3", x.grade(pupil, false), pupil);
            edges.same("none was released", x.grade(pupil, true), -1);
        }
        x.release();
        for (int pupil = 0; pupil < 4; pupil++) edges.same("0 to 3, released", x.grade(pupil, true), pupil);
        x.pupil(0, 15, false);
        x.pupil(0, 0, false);
        edges.same("entered after the release, now", x.grade(4, false), 0);
        edges.same("entered after the release, released", x.grade(4, true), -1);
        edges.same("no total, now", x.grade(5, false), -1);
        edges.same("no total, released", x.grade(5, true), -1);
        edges.words("Promise 23", "Throws IndexOutOfBoundsException if there is no such pupil");
        for (boolean released : new boolean[] {false, true}) {
            edges.numbers("pupil", 2, Edges::released, (r, pupil) -> r.grade(pupil, released));
            edges.numbers("pupil", 16, Edges::full, (r, pupil) -> r.grade(pupil, released));
            edges.refuses("of none", Check.BOUNDS, Edges::room, r -> r.grade(0, released));
        }
    }

    private void changed() {
        edges.words("Promise 24", "Returns how many pupils have another grade now than that which was released");
        ScriptRoom x = Edges.totals(0, 3, 6, 9);
        x.lines(7, 5, 2);
        x.release();
        edges.same("none", x.changed(), 0);
        x.gift(0, 1);
        x.gift(3, 7);
        edges.same("other totals with the same grades", x.changed(), 0);
        x.gift(0, 2);
        edges.same("a better one", x.changed(), 1);
        x.gift(3, 6);
        edges.same("a worse one too", x.changed(), 2);
        x.gift(1, 9);
        x.gift(2, 0);
        edges.same("all", x.changed(), 4);
        for (int pupil = 0; pupil < 4; pupil++) x.gift(pupil, 3 * pupil);
        edges.same("none again", x.changed(), 0);
        x.pupil(0, 15, false);
        edges.same("one for whom none was released", x.changed(), 0);
    }

    private void changedAheadOfIt() {
        edges.words("Promise 24", "0 ahead of that.");
        edges.same("without pupils", new ScriptRoom().changed(), 0);
        ScriptRoom x = Edges.totals(0, 5);
        x.lines(5, 5, 5);
        edges.same("with grades", x.changed(), 0);
        x.gift(0, 9);
        edges.same("with other ones", x.changed(), 0);
        edges.same("without totals", Edges.busy().changed(), 0);
        ScriptRoom y = edges.behind(Check.STATE, () -> allBut(1), ScriptRoom::release);
        y.gift(0, 9);
        edges.same("behind a release that was refused", y.changed(), 0);
    }

    private void lineOf() {
        edges.words("Promise 25", "share: 0 to 100");
        edges.range("share", 0, 100, Edges::released, ScriptRoom::lineOf);
        edges.words("Promise 25", "Returns the line; 0 if no total is there.");
        noTotal();
        edges.words("Promise 25", "Throws IllegalArgumentException if share is out of range");
        edges.refuses("-1 of none", Check.ILLEGAL, Edges::room, x -> x.lineOf(-1));
        edges.refuses("101 of none", Check.ILLEGAL, Edges::room, x -> x.lineOf(101));
    }

    private void noTotal() {
        for (int share : new int[] {0, 1, 50, 99, 100}) {
            edges.same("without pupils", new ScriptRoom().lineOf(share), 0);
            edges.same("without pupils, anew", new ScriptRoom().lineAnew(share), 0);
            edges.same("without totals", Edges.busy().lineOf(share), 0);
            edges.same("without totals, anew", Edges.busy().lineAnew(share), 0);
        }
    }

    private void lineAnew() {
        edges.words("Promise 26", "share: 0 to 100");
        edges.range("share", 0, 100, Edges::released, ScriptRoom::lineAnew);
        edges.words("Promise 26", "Throws IllegalArgumentException if share is out of range");
        edges.refuses("-1 of none", Check.ILLEGAL, Edges::room, x -> x.lineAnew(-1));
        edges.refuses("101 of none", Check.ILLEGAL, Edges::room, x -> x.lineAnew(101));
        edges.words("Promise 26", "Returns the same, found by trying all lines.");
        for (ScriptRoom x : new ScriptRoom[] {Edges.room(), Edges.busy(), Edges.released(), Edges.totals(3, 3, 9, 0, 5, 5, 5)}) {
            for (int share = 0; share <= 100; share++) edges.same("of " + share, x.lineAnew(share), x.lineOf(share));
        }
    }
}
