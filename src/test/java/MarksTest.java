/** Promises 19 to 21 and 28: marks, marks found anew, what is told of answers, what is wanted. */
public final class MarksTest {
    private static final Check check = new Check("MarksTest");

    public static void main(String[] args) {
        single();
        doubled();
        third();
        thirdByTheFirstSenior();
        switched();
        newSchemes();
        appealOfOne();
        appealOfTwo();
        appealReadingCountsForThatAlone();
        appealAsItIsWhenGiven();
        appealAfterALack();
        eachOfMany();
        wrongArguments();
        check.end();
    }

    private static void is(String what, ScriptRoom x, int pupil, int question, int mark, int... answer) {
        check.same("19: " + what, x.mark(pupil, question), mark);
        check.same("20: " + what, x.markAnew(pupil, question), mark);
        for (int i = 0; i < answer.length; i++) {
            check.same("21: " + what + ", answer(.., " + i + ")", x.answer(pupil, question, i), answer[i]);
        }
    }

    /** A room with one answer, of question 0, and the readers 0 to 2, no seniors, and 3 to 5, seniors. */
    private static ScriptRoom roomOfOne(String text) {
        ScriptRoom x = Check.roomWith(text);
        x.pupil(0, 14, false);
        for (int i = 0; i < 6; i++) x.reader(-1, 15, i >= 3);
        return x;
    }

    private static void single() {
        ScriptRoom x = roomOfOne("a+2b+4c");
        is("not read", x, 0, 0, -1, 0, 0, 1, 0);
        check.same("28: one", x.wanted(), 1);
        is("no answer", x, 0, 1, 0, 0, 0, 0, 0);
        x.next(0);
        is("at hand", x, 0, 0, -1, 0, 0, 1, 0);
        check.same("28: whoever has it at hand", x.wanted(), 1);
        x.read(0, 5);
        is("read", x, 0, 0, 5, 1, 1, 0, 0);
        check.same("28: none", x.wanted(), 0);
    }

    private static void pair(int tolerance, int first, int second, int due) {
        ScriptRoom x = roomOfOne("a+2b+4c");
        x.twice(0, true);
        x.tolerance(tolerance);
        is("two are wanted", x, 0, 0, -1, 0, 0, 2, 0);
        Check.work(x, 0, first);
        is("one of two", x, 0, 0, -1, 1, 1, 1, 0);
        Check.work(x, 1, second);
        is("two of " + first + " and " + second, x, 0, 0, due, 2, 2, due < 0 ? 1 : 0, 0);
        check.same("28: a third", x.wanted(), due < 0 ? 1 : 0);
    }

    private static void doubled() {
        pair(0, 3, 3, 3);
        pair(0, 3, 4, -1);
        pair(1, 3, 4, 4);
        pair(1, 4, 3, 4);
        pair(1, 3, 5, -1);
        pair(1, 5, 3, -1);
        pair(2, 5, 3, 4);
        pair(9, 0, 7, 4);
        pair(7, 7, 0, 4);
        pair(6, 7, 0, -1);
        pair(1, 0, 0, 0);
        pair(1, 0, 1, 1);
    }

    private static void third() {
        ScriptRoom x = roomOfOne("a+2b+4c");
        x.twice(0, true);
        Check.work(x, 0, 7);
        Check.work(x, 3, 1);
        is("the second's senior is no third", x, 0, 0, -1, 2, 2, 1, 0);
        check.same("10: not for others", x.next(1), -1);
        check.same("10: for a senior", Check.work(x, 4, 2), 0);
        is("the third alone", x, 0, 0, 2, 3, 3, 0, 0);
        x.tolerance(6);
        is("the third is left aside", x, 0, 0, 4, 3, 3, 0, 0);
        x.tolerance(5);
        is("the third again", x, 0, 0, 2, 3, 3, 0, 0);
    }

    private static void thirdByTheFirstSenior() {
        ScriptRoom x = roomOfOne("a+2b+4c");
        x.twice(0, true);
        x.next(0);
        x.next(1);
        x.twice(0, false);
        x.read(0, 7);
        is("one is enough", x, 0, 0, 7, 1, 1, 0, 0);
        x.read(1, 0);
        is("the first one of two", x, 0, 0, 7, 2, 2, 0, 0);
        x.twice(0, true);
        is("both", x, 0, 0, -1, 2, 2, 1, 0);
        Check.work(x, 5, 3);
        is("by the senior", x, 0, 0, 3, 3, 3, 0, 0);
        ScriptRoom y = roomOfOne("a+2b+4c");
        y.twice(0, true);
        Check.work(y, 0, 7);
        y.next(1);
        Check.scheme(y, 0, "a+2b+4c+d");
        y.next(0);
        y.read(1, 1);
        y.read(0, 15);
        is("two that count, one that does not", y, 0, 0, -1, 2, 3, 1, 0);
        Check.scheme(y, 0, "a+2b+4c");
        is("now the third one is by nobody senior", y, 0, 0, -1, 3, 3, 1, 0);
        Check.work(y, 4, 2);
        is("now by one who is", y, 0, 0, 2, 4, 4, 0, 0);
    }

    private static void switched() {
        ScriptRoom x = roomOfOne("a+2b+4c");
        Check.work(x, 0, 4);
        x.twice(0, true);
        is("one is lacking", x, 0, 0, -1, 1, 1, 1, 0);
        Check.work(x, 1, 3);
        is("both", x, 0, 0, 4, 2, 2, 0, 0);
        x.tolerance(0);
        is("apart", x, 0, 0, -1, 2, 2, 1, 0);
        x.twice(0, false);
        is("the first, and no third", x, 0, 0, 4, 2, 2, 0, 0);
    }

    private static void newSchemes() {
        ScriptRoom x = roomOfOne("a+2b");
        Check.work(x, 0, 7);
        is("by the first", x, 0, 0, 3, 1, 1, 0, 0);
        Check.scheme(x, 0, "5b");
        is("fewer letters", x, 0, 0, 5, 1, 1, 0, 0);
        Check.scheme(x, 0, "a+b+c");
        is("another letter", x, 0, 0, -1, 0, 1, 1, 0);
        Check.work(x, 1, 4);
        is("read again", x, 0, 0, 1, 1, 2, 0, 0);
        Check.scheme(x, 0, "a+7b");
        is("the first one again", x, 0, 0, 8, 2, 2, 0, 0);
        Check.scheme(x, 0, "c");
        is("points that were no letters are left out", x, 0, 0, 1, 1, 2, 0, 0);
        Check.scheme(x, 1, "h");
        is("another question's scheme", x, 0, 0, 1, 1, 2, 0, 0);
        ScriptRoom y = roomOfOne("b");
        Check.work(y, 0, 3);
        Check.scheme(y, 0, "a");
        is("a was no letter", y, 0, 0, -1, 0, 1, 1, 0);
        Check.scheme(y, 0, "2b");
        is("b was one", y, 0, 0, 2, 1, 1, 0, 0);
        Check.scheme(x, 0, "h+");
        is("a fault", x, 0, 0, 1, 1, 2, 0, 0);
    }

    private static void appealed(int tolerance, int first, int second, int due) {
        ScriptRoom x = roomOfOne("a+2b+4c");
        x.tolerance(tolerance);
        Check.work(x, 3, first);
        x.release();
        check.same("15: the mark", x.appeal(0, 0), first);
        is("appealed", x, 0, 0, first, 1, 1, 1, 1);
        check.same("28: one for the appeal", x.wanted(), 1);
        check.same("10: not to others", x.next(0), -1);
        check.same("10: not to who read it", x.next(3), -1);
        check.same("10: to another senior", x.next(4), 0);
        check.same("10: once", x.next(5), -1);
        is("at hand", x, 0, 0, first, 1, 1, 1, 1);
        x.read(4, second);
        is("read", x, 0, 0, due, 2, 2, 0, 1);
        check.same("28: none any more", x.wanted(), 0);
        check.same("10: no more", x.next(5), -1);
    }

    private static void appealOfOne() {
        appealed(0, 3, 3, 3);
        appealed(0, 3, 4, 4);
        appealed(1, 3, 4, 3);
        appealed(1, 3, 2, 3);
        appealed(1, 3, 5, 5);
        appealed(1, 3, 1, 1);
        appealed(9, 0, 7, 0);
    }

    private static void appealOfTwo() {
        ScriptRoom x = roomOfOne("a+2b+4c");
        x.twice(0, true);
        Check.work(x, 0, 7);
        Check.work(x, 1, 1);
        Check.work(x, 3, 4);
        is("by the third", x, 0, 0, 4, 3, 3, 0, 0);
        x.release();
        x.appeal(0, 0);
        Check.work(x, 4, 0);
        is("by the appeal", x, 0, 0, 0, 4, 4, 0, 1);
        x.tolerance(9);
        is("both, and the appeal is near", x, 0, 0, 4, 4, 4, 0, 1);
        x.tolerance(3);
        is("the third, and the appeal is apart", x, 0, 0, 0, 4, 4, 0, 1);
        x.tolerance(4);
        is("the third, and the appeal is near", x, 0, 0, 4, 4, 4, 0, 1);
    }

    private static void appealReadingCountsForThatAlone() {
        ScriptRoom x = roomOfOne("a+2b+4c");
        Check.work(x, 0, 3);
        x.release();
        x.appeal(0, 0);
        Check.work(x, 3, 7);
        is("by the appeal", x, 0, 0, 7, 2, 2, 0, 1);
        x.twice(0, true);
        is("it is no second one", x, 0, 0, -1, 2, 2, 1, 1);
        Check.work(x, 1, 0);
        is("nor a third one", x, 0, 0, -1, 3, 3, 1, 1);
        check.same("10: not to who read it for the appeal", x.next(3), -1);
        Check.work(x, 4, 1);
        is("the third is 1, the appeal 7", x, 0, 0, 7, 4, 4, 0, 1);
        check.same("10: none for the appeal again", x.next(5), -1);
    }

    private static void appealAsItIsWhenGiven() {
        ScriptRoom x = roomOfOne("a+2b+4c");
        Check.work(x, 0, 3);
        x.release();
        x.appeal(0, 0);
        check.same("10: for the appeal", x.next(3), 0);
        x.twice(0, true);
        is("one is lacking", x, 0, 0, -1, 1, 1, 1, 1);
        check.same("10: one has it", x.next(1), -1);
        x.read(3, 7);
        is("still", x, 0, 0, -1, 2, 2, 1, 1);
        Check.work(x, 1, 2);
        is("both, then the appeal", x, 0, 0, 7, 3, 3, 0, 1);
        ScriptRoom y = roomOfOne("a+2b+4c");
        y.twice(0, true);
        check.same("10: as a first", y.next(4), 0);
        check.same("10: as a second", y.next(0), 0);
        y.twice(0, false);
        y.read(0, 3);
        y.release();
        y.appeal(0, 0);
        check.same("10: one is wanted, one has it", y.next(3), -1);
        y.read(4, 7);
        is("not for the appeal", y, 0, 0, 3, 2, 2, 1, 1);
        Check.work(y, 3, 6);
        is("for the appeal", y, 0, 0, 6, 3, 3, 0, 1);
    }

    private static void appealAfterALack() {
        ScriptRoom x = roomOfOne("a");
        Check.work(x, 0, 1);
        x.release();
        x.appeal(0, 0);
        Check.work(x, 3, 0);
        Check.scheme(x, 0, "a+2b");
        is("none counts any more", x, 0, 0, -1, 0, 2, 1, 1);
        Check.work(x, 0, 3);
        is("one, and one for the appeal", x, 0, 0, 3, 1, 3, 1, 1);
        Check.work(x, 3, 0);
        is("both", x, 0, 0, 0, 2, 4, 0, 1);
        Check.scheme(x, 0, "3a");
        is("the first for the appeal is 0, the first one is 1", x, 0, 0, 0, 4, 4, 0, 1);
    }

    /** Every answer has marks of its own, also those of other pupils and questions, read in turns. */
    private static void eachOfMany() {
        ScriptRoom x = new ScriptRoom();
        String[] texts = {"a+2b+4c", "b+2c+4a", "c+2a+4b", "2(a+2b+4c)<9"};
        for (int q = 0; q < 4; q++) Check.scheme(x, q, texts[q]);
        for (int p = 0; p < 5; p++) x.pupil(p, 0, false);
        x.reader(-1, 15, false);
        x.reader(-1, 15, true);
        x.twice(1, true);
        x.tolerance(9);
        int[][] points = new int[20][2];
        int[] read = new int[20];
        for (int n = 0; n < 25; n++) {
            int reader = n % 5 == 4 ? 1 : 0;
            int what = x.next(reader);
            if (what == -1) what = x.next(reader = 1 - reader);
            int answer = what / 10 * 4 + what % 10;
            points[answer][read[answer]++] = n * 5 % 8;
            x.read(reader, n * 5 % 8);
        }
        check.same("28: all are read", x.wanted(), 0);
        for (int p = 0; p < 5; p++) {
            for (int q = 0; q < 4; q++) {
                int[] found = points[4 * p + q];
                int due = x.markOf(q, 0, found[0]);
                if (q == 1) due = (due + x.markOf(q, 0, found[1]) + 1) / 2;
                is("pupil " + p + ", question " + q, x, p, q, due, q == 1 ? 2 : 1, q == 1 ? 2 : 1, 0, 0);
            }
        }
        Check.scheme(x, 2, "a");
        Check.scheme(x, 3, "h");
        check.same("28: those of question 3", x.wanted(), 5);
        for (int p = 0; p < 5; p++) {
            is("fewer letters", x, p, 2, points[4 * p + 2][0] & 1, 1, 1, 0, 0);
            is("other letters", x, p, 3, -1, 0, 1, 1, 0);
        }
    }

    private static void wrongArguments() {
        ScriptRoom x = Check.roomWith("a");
        check.fails("19: no pupil", Check.BOUNDS, () -> x.mark(0, 0));
        check.fails("20: no pupil", Check.BOUNDS, () -> x.markAnew(0, 0));
        check.fails("21: no pupil comes first", Check.BOUNDS, () -> x.answer(0, 0, 4));
        x.pupil(0, 0, false);
        int[][] wrong = {{-1, 0}, {1, 0}, {0, -1}, {0, 4}, {16, 0}, {Integer.MIN_VALUE, 0}, {0, Integer.MAX_VALUE}};
        for (int[] w : wrong) {
            check.fails("19: mark(" + w[0] + ", " + w[1] + ")", Check.BOUNDS, () -> x.mark(w[0], w[1]));
            check.fails("20: markAnew(" + w[0] + ", " + w[1] + ")", Check.BOUNDS, () -> x.markAnew(w[0], w[1]));
            check.fails("21: answer(" + w[0] + ", " + w[1] + ", -1)", Check.BOUNDS, () -> x.answer(w[0], w[1], -1));
        }
        check.fails("21: what -1", Check.ILLEGAL, () -> x.answer(0, 0, -1));
        check.fails("21: what 4", Check.ILLEGAL, () -> x.answer(0, 0, 4));
    }
}
