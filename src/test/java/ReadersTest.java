/** Promises 8 to 12 and 27: readers, seeds, what is next, reading, going on. */
public final class ReadersTest {
    private static final Check check = new Check("ReadersTest");

    public static void main(String[] args) {
        reader();
        seed();
        nextInOrder();
        nextNeedsAScheme();
        nextStays();
        nextGivesNoMoreThanIsWanted();
        nextAnswersOnce();
        nextBySenior();
        nextSeeds();
        nextThrows();
        read();
        readStops();
        seedByTheSchemeThatHolds();
        seedsHavePointsOfTheirOwn();
        seedWithinTheTolerance();
        goOn();
        voidSinceTheLastGoodSeed();
        ofReader();
        check.end();
    }

    private static void ofReaderIs(String what, ScriptRoom x, int reader, int... due) {
        for (int i = 0; i < due.length; i++) check.same(what + ": ofReader(" + reader + ", " + i + ")", x.ofReader(reader, i), due[i]);
    }

    private static void reader() {
        ScriptRoom x = new ScriptRoom();
        check.fails("8: school -2", Check.ILLEGAL, () -> x.reader(-2, 1, false));
        check.fails("8: school 5", Check.ILLEGAL, () -> x.reader(5, 1, false));
        check.fails("8: questions 0", Check.ILLEGAL, () -> x.reader(0, 0, false));
        check.fails("8: questions 16", Check.ILLEGAL, () -> x.reader(0, 16, false));
        for (int i = 0; i < 6; i++) check.same("8: reader", x.reader(i - 1, 1 + i, i % 2 == 0), i);
        check.fails("8: a seventh", Check.STATE, () -> x.reader(0, 1, false));
        check.fails("8: a seventh of no questions", Check.ILLEGAL, () -> x.reader(0, 0, false));
        for (int i = 0; i < 6; i++) ofReaderIs("8: new", x, i, 0, -1, 0, 0, 0, 0);
    }

    private static void seed() {
        ScriptRoom x = new ScriptRoom();
        check.fails("9: no scheme", Check.STATE, () -> x.seed(0, 0));
        check.fails("9: question -1", Check.BOUNDS, () -> x.seed(-1, 0));
        check.fails("9: question 4 comes first", Check.BOUNDS, () -> x.seed(4, 256));
        check.fails("9: points come ahead of the scheme", Check.ILLEGAL, () -> x.seed(0, 256));
        Check.scheme(x, 0, "a");
        check.fails("9: points -1", Check.ILLEGAL, () -> x.seed(0, -1));
        check.fails("9: no scheme of that question", Check.STATE, () -> x.seed(1, 0));
        Check.scheme(x, 1, "a");
        for (int i = 0; i < 8; i++) check.same("9: seed", x.seed(i % 2, 255 - i), i);
        check.fails("9: a ninth", Check.STATE, () -> x.seed(0, 0));
        check.fails("9: a ninth of no points", Check.ILLEGAL, () -> x.seed(0, -1));
    }

    private static void nextInOrder() {
        ScriptRoom x = Check.roomWith("a");
        x.pupil(0, 0, false);
        x.pupil(1, 1, true);
        x.pupil(2, 0, false);
        x.pupil(0, 8 + 2, true);
        x.reader(1, 15, false);
        x.reader(-1, 2, false);
        x.reader(0, 6, false);
        int[] first = {30, 32, 0, 1, 2, 3, 20, 21, 22, 23, -1};
        for (int what : first) check.same("10: next of a reader of school 1", Check.work(x, 0, 1), what);
        check.same("10: only their questions", Check.work(x, 1, 1), 11);
        check.same("10: nothing more of theirs", x.next(1), -1);
        check.same("10: others' questions", Check.work(x, 2, 1), 12);
        check.same("10: one is left", x.wanted(), 1);
        check.same("10: not of them", x.next(2), -1);
        ScriptRoom y = Check.roomWith("a");
        y.pupil(2, 0, false);
        y.reader(2, 15, true);
        check.same("10: never their own school", y.next(0), -1);
        ofReaderIs("10: nothing changes by nothing", y, 0, 0, -1, 0, 0, 0, 0);
    }

    private static void nextNeedsAScheme() {
        ScriptRoom x = new ScriptRoom();
        x.pupil(0, 0, false);
        x.reader(-1, 15, false);
        check.same("10: no scheme", x.next(0), -1);
        check.same("28: wanted all the same", x.wanted(), 4);
        Check.scheme(x, 2, "a");
        check.same("10: the one with a scheme", Check.work(x, 0, 0), 2);
        check.same("10: none left with a scheme", x.next(0), -1);
        check.same("28: three are wanted", x.wanted(), 3);
    }

    private static void nextStays() {
        ScriptRoom x = Check.roomWith("a");
        x.pupil(0, 0, false);
        x.reader(-1, 15, false);
        check.same("10: next", x.next(0), 0);
        x.pupil(0, 0, true);
        check.same("10: what is at hand stays", x.next(0), 0);
        x.read(0, 1);
        check.same("10: then the urgent one", x.next(0), 10);
    }

    private static void nextGivesNoMoreThanIsWanted() {
        ScriptRoom x = Check.roomWith("a");
        x.pupil(0, 14, false);
        for (int i = 0; i < 4; i++) x.reader(-1, 15, i == 3);
        check.same("10: the first has it", x.next(0), 0);
        check.same("10: one is enough", x.next(1), -1);
        x.twice(0, true);
        check.same("10: two are wanted", x.next(1), 0);
        check.same("10: two are enough", x.next(2), -1);
        x.read(0, 1);
        check.same("10: one is wanted, one has it", x.next(2), -1);
        check.same("10: nor theirs that read it", x.next(0), -1);
        x.read(1, 1);
        check.same("10: none is wanted", x.next(3), -1);
        x.twice(0, false);
        check.same("10: none is wanted of one either", x.next(3), -1);
    }

    private static void nextAnswersOnce() {
        ScriptRoom x = Check.roomWith("a");
        x.pupil(0, 14, false);
        x.reader(-1, 15, true);
        x.reader(-1, 15, true);
        x.twice(0, true);
        check.same("10: read once", Check.work(x, 0, 1), 0);
        check.same("10: not again by the same", x.next(0), -1);
        Check.scheme(x, 0, "a+b");
        check.same("10: again as it does not count", Check.work(x, 0, 3), 0);
        check.same("10: not a third time", x.next(0), -1);
        Check.scheme(x, 0, "b");
        check.same("10: not as letters fall away", x.next(0), -1);
        check.same("21: one of two counts", x.answer(0, 0, 0), 1);
        Check.scheme(x, 0, "a");
        check.same("21: both count by the letter of both", x.answer(0, 0, 0), 2);
        check.same("19: both by one reader", x.mark(0, 0), 1);
    }

    private static void nextBySenior() {
        ScriptRoom x = Check.roomWith("3a");
        x.pupil(0, 14, false);
        for (int i = 0; i < 5; i++) x.reader(-1, 15, i >= 3);
        x.twice(0, true);
        check.same("10: to a senior too", Check.work(x, 3, 1), 0);
        check.same("10: to another", Check.work(x, 0, 0), 0);
        check.same("10: a third to none but a senior", x.next(1), -1);
        check.same("10: nor to a senior who read it", x.next(3), -1);
        check.same("10: to the other senior", x.next(4), 0);
        x.tolerance(9);
        x.read(4, 0);
        x.tolerance(1);
        check.same("19: theirs counts all the same", x.mark(0, 0), 0);
    }

    private static void nextSeeds() {
        ScriptRoom x = Check.roomWith("a+b");
        for (int i = 0; i < 4; i++) x.pupil(0, 0, false);
        x.reader(-1, 15, false);
        x.reader(-1, 4, false);
        x.seed(3, 3);
        x.seed(0, 3);
        x.seed(2, 3);
        check.same("10: an answer first", Check.work(x, 0, 3), 0);
        check.same("10: a second", Check.work(x, 0, 3), 1);
        check.same("10: a third", Check.work(x, 0, 3), 2);
        check.same("10: the lowest seed behind three", x.next(0), 1003);
        ofReaderIs("10: given", x, 0, 0, 1003, 3, 0, 3, 1);
        check.same("10: it stays", x.next(0), 1003);
        ofReaderIs("10: given once", x, 0, 0, 1003, 3, 0, 3, 1);
        check.same("11: read well", x.read(0, 3), 2);
        check.same("10: an answer behind a seed", Check.work(x, 0, 3), 3);
        check.same("10: a second behind it", Check.work(x, 0, 3), 10);
        check.same("10: a third behind it", Check.work(x, 0, 3), 11);
        check.same("10: the next seed", Check.work(x, 0, 3), 1000);
        for (int what : new int[] {22, 32}) check.same("10: the other reader's own", Check.work(x, 1, 3), what == 22 ? 12 : 22);
        check.same("10: none is due with two", Check.work(x, 1, 3), 32);
        check.same("10: a seed of theirs alone", Check.work(x, 1, 3), 1002);
        for (int what : new int[] {13, 20, 21}) check.same("10: on", Check.work(x, 0, 3), what);
        check.same("10: a seed that another was given", Check.work(x, 0, 3), 1002);
        for (int what : new int[] {23, 30, 31, 33}) check.same("10: no seed is left", Check.work(x, 0, 3), what);
        check.same("10: nothing at the end", x.next(0), -1);
        x.seed(1, 3);
        check.same("10: a new seed is due at once", x.next(0), 1001);
        ofReaderIs("10: four since the last", x, 0, 0, 1001, 13, 0, 4, 4);
    }

    private static void nextThrows() {
        ScriptRoom x = Check.roomWith("a");
        check.fails("10: no reader", Check.BOUNDS, () -> x.next(0));
        x.reader(-1, 15, false);
        check.fails("10: reader -1", Check.BOUNDS, () -> x.next(-1));
        check.fails("10: reader 1", Check.BOUNDS, () -> x.next(1));
        check.fails("11: reader 1", Check.BOUNDS, () -> x.read(1, 256));
        check.fails("11: reader -1", Check.BOUNDS, () -> x.read(-1, 0));
        check.fails("11: points 256 with nothing at hand", Check.ILLEGAL, () -> x.read(0, 256));
        check.fails("11: points -1", Check.ILLEGAL, () -> x.read(0, -1));
        check.fails("11: nothing at hand", Check.STATE, () -> x.read(0, 0));
        check.fails("12: reader 1", Check.BOUNDS, () -> x.goOn(1));
        check.fails("12: reader -1", Check.BOUNDS, () -> x.goOn(-1));
        check.fails("12: not stopped", Check.STATE, () -> x.goOn(0));
    }

    private static void read() {
        ScriptRoom x = Check.roomWith("a+2b<2");
        x.pupil(0, 14, false);
        x.pupil(0, 14, false);
        x.reader(-1, 1, false);
        x.next(0);
        check.fails("11: points 256", Check.ILLEGAL, () -> x.read(0, 256));
        ofReaderIs("11: still at hand", x, 0, 0, 0, 0, 0, 0, 0);
        check.same("11: the mark, other points left out", x.read(0, 255), 2);
        ofReaderIs("11: read", x, 0, 0, -1, 1, 0, 1, 0);
        check.fails("11: nothing at hand any more", Check.STATE, () -> x.read(0, 1));
        check.same("21: one reading counts", x.answer(0, 0, 0), 1);
        x.next(0);
        Check.scheme(x, 0, "5a+c");
        check.same("11: by the scheme that holds as it is read", x.read(0, 5), 6);
        check.same("21: of these letters", x.answer(1, 0, 0), 1);
        check.same("21: the other does not count", x.answer(0, 0, 0), 0);
        check.same("10: it is read again", x.next(0), 0);
        ofReaderIs("11: two were read", x, 0, 0, 0, 2, 0, 2, 0);
    }

    private static void readStops() {
        ScriptRoom x = Check.roomWith("a+b+c");
        for (int i = 0; i < 4; i++) x.pupil(0, 14, false);
        x.reader(-1, 1, false);
        x.reader(-1, 1, false);
        x.seed(0, 7);
        check.same("10: the other reads first", Check.work(x, 1, 7), 0);
        for (int what : new int[] {10, 20, 30}) check.same("10: next", Check.work(x, 0, 7), what);
        check.same("10: a seed", x.next(0), 1000);
        check.same("11: read badly", x.read(0, 1), 1);
        ofReaderIs("11: stopped", x, 0, 1, -1, 3, 3, 0, 1);
        ofReaderIs("11: the other is not", x, 1, 0, -1, 1, 0, 1, 0);
        check.same("11: theirs are void", x.wanted(), 3);
        check.same("11: the other's is not", x.mark(0, 0), 3);
        for (int p = 1; p < 4; p++) {
            check.same("21: none counts", x.answer(p, 0, 0), 0);
            check.same("21: one there is", x.answer(p, 0, 1), 1);
            check.same("20: no mark from the log", x.markAnew(p, 0), -1);
        }
        check.fails("10: stopped", Check.STATE, () -> x.next(0));
        check.fails("11: stopped, nothing at hand", Check.STATE, () -> x.read(0, 0));
        check.same("12: all that are void", x.goOn(0), 3);
        check.same("10: void readings are read again by the same", Check.work(x, 0, 7), 10);
        check.same("19: and count then", x.mark(1, 0), 3);
    }

    private static void seedByTheSchemeThatHolds() {
        ScriptRoom x = Check.roomWith("a");
        for (int i = 0; i < 4; i++) x.pupil(0, 14, false);
        x.reader(-1, 1, false);
        x.seed(0, 3);
        for (int i = 0; i < 3; i++) Check.work(x, 0, 1);
        Check.scheme(x, 0, "a+4b");
        check.same("10: seed", x.next(0), 1000);
        check.same("11: the mark by the new one", x.read(0, 1), 1);
        check.same("11: 1 is not 5", x.ofReader(0, 0), 1);
    }

    private static void seedsHavePointsOfTheirOwn() {
        ScriptRoom x = new ScriptRoom();
        for (int q = 0; q < 4; q++) Check.scheme(x, q, "a+2b+4c+8d");
        for (int i = 0; i < 6; i++) x.pupil(0, 1, false);
        x.reader(-1, 15, false);
        x.tolerance(0);
        x.seed(1, 1);
        x.seed(0, 2);
        x.seed(2, 12);
        for (int[] due : new int[][] {{1001, 1}, {1000, 2}, {1002, 12}}) {
            for (int i = 0; i < 3; i++) check.same("10: no seed yet", Check.work(x, 0, 0) < 1000, true);
            check.same("10: seed", Check.work(x, 0, due[1]), due[0]);
            check.same("11: read well", x.ofReader(0, 0), 0);
        }
        check.same("27: three were given", x.ofReader(0, 5), 3);
    }

    private static int stoppedBy(int tolerance, int points) {
        ScriptRoom x = Check.roomWith("a+2b+4c");
        for (int i = 0; i < 3; i++) x.pupil(0, 14, false);
        x.reader(-1, 1, false);
        x.seed(0, 2);
        x.tolerance(tolerance);
        for (int i = 0; i < 3; i++) Check.work(x, 0, 1);
        x.next(0);
        x.read(0, points);
        return x.ofReader(0, 0);
    }

    private static void seedWithinTheTolerance() {
        check.same("11: 2 is 2", stoppedBy(0, 2), 0);
        check.same("11: 1 is not 2 by 0", stoppedBy(0, 1), 1);
        check.same("11: 3 is not 2 by 0", stoppedBy(0, 3), 1);
        check.same("11: 1 is 2 by 1", stoppedBy(1, 1), 0);
        check.same("11: 3 is 2 by 1", stoppedBy(1, 3), 0);
        check.same("11: 0 is not 2 by 1", stoppedBy(1, 0), 1);
        check.same("11: 4 is not 2 by 1", stoppedBy(1, 4), 1);
        check.same("11: 7 is 2 by 5", stoppedBy(5, 7), 0);
        check.same("11: 7 is not 2 by 4", stoppedBy(4, 7), 1);
    }

    private static void goOn() {
        ScriptRoom x = Check.roomWith("a+b+c");
        for (int i = 0; i < 9; i++) x.pupil(0, 14, false);
        x.reader(-1, 1, false);
        for (int i = 0; i < 2; i++) x.seed(0, 7);
        for (int i = 0; i < 3; i++) Check.work(x, 0, 7);
        check.same("12: a first seed", Check.work(x, 0, 0), 1000);
        check.same("12: stopped", x.ofReader(0, 0), 1);
        check.same("12: three are void", x.goOn(0), 3);
        ofReaderIs("12: on", x, 0, 0, -1, 3, 3, 0, 1);
        check.fails("12: not stopped any more", Check.STATE, () -> x.goOn(0));
        for (int i = 0; i < 3; i++) check.same("12: from the first again", Check.work(x, 0, 7), 10 * i);
        check.same("12: a second seed", Check.work(x, 0, 0), 1000);
        ofReaderIs("12: stopped again", x, 0, 1, -1, 6, 6, 0, 2);
        check.same("12: all in all", x.goOn(0), 6);
    }

    private static void voidSinceTheLastGoodSeed() {
        ScriptRoom x = Check.roomWith("a+b+c");
        for (int i = 0; i < 9; i++) x.pupil(0, 14, false);
        x.reader(-1, 1, false);
        for (int i = 0; i < 3; i++) x.seed(0, 7);
        for (int i = 0; i < 3; i++) Check.work(x, 0, 7);
        check.same("11: a good seed", Check.work(x, 0, 7), 1000);
        for (int i = 0; i < 3; i++) Check.work(x, 0, 7);
        check.same("11: a bad seed", Check.work(x, 0, 0), 1000);
        ofReaderIs("11: those since the good one", x, 0, 1, -1, 6, 3, 0, 2);
        for (int p = 0; p < 6; p++) check.same("11: counts", x.answer(p, 0, 0), p < 3 ? 1 : 0);
        check.same("12: three", x.goOn(0), 3);
        for (int i = 0; i < 3; i++) check.same("12: again", Check.work(x, 0, 7), 30 + 10 * i);
        check.same("11: another bad seed", Check.work(x, 0, 0), 1000);
        check.same("12: none is void twice", x.goOn(0), 6);
        for (int p = 0; p < 6; p++) check.same("11: counts still", x.answer(p, 0, 0), p < 3 ? 1 : 0);
    }

    private static void ofReader() {
        ScriptRoom x = Check.roomWith("a");
        check.fails("27: no reader", Check.BOUNDS, () -> x.ofReader(0, 0));
        check.fails("27: no reader comes first", Check.BOUNDS, () -> x.ofReader(0, 6));
        x.reader(-1, 15, false);
        x.pupil(3, 0, false);
        x.pupil(3, 0, false);
        check.fails("27: reader -1", Check.BOUNDS, () -> x.ofReader(-1, 0));
        check.fails("27: reader 1", Check.BOUNDS, () -> x.ofReader(1, 0));
        check.fails("27: what -1", Check.ILLEGAL, () -> x.ofReader(0, -1));
        check.fails("27: what 6", Check.ILLEGAL, () -> x.ofReader(0, 6));
        for (int i = 0; i < 6; i++) {
            check.same("27: read", x.ofReader(0, 2), i);
            check.same("27: since the beginning, without a seed", x.ofReader(0, 4), i);
            check.same("27: at hand", x.next(0), i / 4 * 10 + i % 4);
            check.same("27: at hand, told", x.ofReader(0, 1), i / 4 * 10 + i % 4);
            x.read(0, 1);
            check.same("27: nothing at hand", x.ofReader(0, 1), -1);
        }
    }
}
