/** Promises 13 to 15 and 22 to 26: lines, release, appeals, totals, grades, shares. */
public final class ReleaseTest {
    private static final Check check = new Check("ReleaseTest");

    public static void main(String[] args) {
        total();
        lines();
        grade();
        release();
        releaseThrows();
        appeal();
        changed();
        shares();
        sharesOfMany();
        check.end();
    }

    private static int totalOf(int... points) {
        ScriptRoom x = Check.roomWith("a+2b+4c");
        x.pupil(0, 0, false);
        x.gift(0, 5);
        x.reader(-1, 15, false);
        for (int question = 0; question < 4; question++) {
            check.same("22: not there yet", x.total(0), -1);
            check.same("23: no grade yet", x.grade(0, false), -1);
            Check.work(x, 0, points[question]);
        }
        return x.total(0);
    }

    private static void total() {
        check.same("22: the better one of two, first", totalOf(1, 2, 7, 3), 15);
        check.same("22: the better one of two, second", totalOf(7, 0, 1, 2), 14);
        check.same("22: only of the last two", totalOf(7, 7, 0, 0), 19);
        for (int missing = 0; missing < 4; missing++) {
            ScriptRoom y = new ScriptRoom();
            y.pupil(0, 15 - (1 << missing), false);
            y.gift(0, 3);
            check.same("22: only question " + missing + " is missing", y.total(0), -1);
            check.same("25: no total is there", y.lineOf(0), 0);
        }
        ScriptRoom x = new ScriptRoom();
        check.fails("22: no pupil", Check.BOUNDS, () -> x.total(0));
        x.pupil(0, 15, false);
        check.same("22: no answers", x.total(0), 0);
        x.gift(0, 9);
        check.same("22: a gift", x.total(0), 9);
        check.fails("22: pupil -1", Check.BOUNDS, () -> x.total(-1));
        check.fails("22: pupil 1", Check.BOUNDS, () -> x.total(1));
    }

    /** Pupils without answers whose totals are their gifts. */
    private static ScriptRoom roomOf(int... gifts) {
        ScriptRoom x = new ScriptRoom();
        for (int i = 0; i < gifts.length; i++) {
            x.pupil(0, 15, false);
            x.gift(i, gifts[i]);
        }
        return x;
    }

    private static void lines() {
        ScriptRoom x = roomOf(1, 3, 5, 7);
        x.pupil(0, 0, false);
        check.fails("13: first 1000", Check.ILLEGAL, () -> x.lines(1000, 0, 0));
        check.fails("13: first -1", Check.ILLEGAL, () -> x.lines(-1, -1, -1));
        check.fails("13: second above first", Check.ILLEGAL, () -> x.lines(5, 6, 0));
        check.fails("13: second -1", Check.ILLEGAL, () -> x.lines(5, -1, -1));
        check.fails("13: third above second", Check.ILLEGAL, () -> x.lines(5, 4, 5));
        check.fails("13: third -1", Check.ILLEGAL, () -> x.lines(5, 4, -1));
        check.same("13: nothing changed", x.grade(0, false), 3);
        check.same("13: 999", x.lines(999, 999, 999), 0);
        check.same("13: all whose total is there", x.lines(0, 0, 0), 4);
        check.same("13: one on the line", x.lines(5, 5, 5), 2);
        check.same("13: one above", x.lines(6, 3, 0), 1);
    }

    private static void grade() {
        ScriptRoom x = roomOf(0, 1, 2, 3, 4, 5, 6, 7);
        x.lines(6, 4, 1);
        int[] due = {0, 1, 1, 1, 2, 2, 3, 3};
        for (int p = 0; p < 8; p++) {
            check.same("23: grade of now", x.grade(p, false), due[p]);
            check.same("23: none was released", x.grade(p, true), -1);
        }
        check.same("14: above 0", x.release(), 7);
        for (int p = 0; p < 8; p++) check.same("23: released", x.grade(p, true), due[p]);
        check.same("23: one more pupil", x.pupil(0, 15, false), 8);
        check.same("23: none was released for the pupil", x.grade(8, true), -1);
        check.same("23: of now", x.grade(8, false), 0);
        for (boolean released : new boolean[] {false, true}) {
            check.fails("23: pupil -1", Check.BOUNDS, () -> x.grade(-1, released));
            check.fails("23: pupil 9", Check.BOUNDS, () -> x.grade(9, released));
        }
    }

    private static void release() {
        ScriptRoom x = roomOf(0, 0, 5);
        x.lines(5, 5, 5);
        check.same("14: one", x.release(), 1);
        check.fails("14: twice", Check.STATE, () -> x.release());
        check.fails("13: lines behind it", Check.STATE, () -> x.lines(0, 0, 0));
        check.fails("13: wrong lines behind it", Check.ILLEGAL, () -> x.lines(0, 1, 0));
        check.same("13: the lines stay", x.grade(0, false), 0);
        x.gift(0, 9);
        check.same("14: what was released is kept", x.grade(0, true), 0);
        check.same("23: and of now", x.grade(0, false), 3);
    }

    private static void releaseThrows() {
        ScriptRoom x = new ScriptRoom();
        check.fails("14: no pupil", Check.STATE, () -> x.release());
        check.same("13: lines are told still", x.lines(1, 1, 1), 0);
        x.pupil(0, 15, false);
        x.pupil(0, 7, false);
        check.fails("14: a total is not there", Check.STATE, () -> x.release());
        check.same("14: nothing was released", x.grade(0, true), -1);
        check.same("13: nor are lines kept", x.lines(0, 0, 0), 1);
        Check.scheme(x, 3, "a");
        x.reader(-1, 8, false);
        Check.work(x, 0, 1);
        check.same("14: all are there", x.release(), 2);
    }

    private static void appeal() {
        ScriptRoom x = Check.roomWith("a+2b+4c");
        x.pupil(0, 12, false);
        x.reader(-1, 15, false);
        x.reader(-1, 15, true);
        Check.work(x, 0, 5);
        Check.work(x, 0, 6);
        check.fails("15: not released", Check.STATE, () -> x.appeal(0, 0));
        check.same("21: not appealed", x.answer(0, 0, 3), 0);
        x.release();
        int[][] wrong = {{-1, 0}, {1, 0}, {0, -1}, {0, 4}};
        for (int[] w : wrong) check.fails("15: appeal(" + w[0] + ", " + w[1] + ")", Check.BOUNDS, () -> x.appeal(w[0], w[1]));
        check.fails("15: no answer", Check.STATE, () -> x.appeal(0, 2));
        check.same("15: the mark", x.appeal(0, 1), 6);
        check.fails("15: already", Check.STATE, () -> x.appeal(0, 1));
        check.same("21: appealed", x.answer(0, 1, 3), 1);
        check.same("21: the other is not", x.answer(0, 0, 3), 0);
        Check.scheme(x, 0, "d");
        check.fails("15: the mark is not there", Check.STATE, () -> x.appeal(0, 0));
        check.same("21: still not", x.answer(0, 0, 3), 0);
        Check.work(x, 0, 8);
        check.same("15: it is there again", x.appeal(0, 0), 1);
        x.pupil(0, 14, true);
        check.fails("15: a late pupil without a mark", Check.STATE, () -> x.appeal(1, 0));
        Check.work(x, 0, 0);
        check.same("15: a late pupil", x.appeal(1, 0), 0);
    }

    private static void changed() {
        ScriptRoom x = Check.roomWith("a+2b+4c");
        x.pupil(0, 14, false);
        x.pupil(0, 15, false);
        x.reader(-1, 15, false);
        x.reader(-1, 15, true);
        Check.work(x, 0, 7);
        x.lines(7, 5, 3);
        check.same("24: 0 ahead of it", x.changed(), 0);
        x.release();
        check.same("24: none", x.changed(), 0);
        x.gift(1, 2);
        check.same("24: another total, the same grade", x.changed(), 0);
        x.gift(1, 3);
        check.same("24: another grade", x.changed(), 1);
        x.appeal(0, 0);
        check.same("24: not by an appeal", x.changed(), 1);
        Check.work(x, 1, 2);
        check.same("24: by its reading", x.changed(), 2);
        Check.scheme(x, 0, "h");
        check.same("24: no grade is another grade", x.changed(), 2);
        x.gift(1, 0);
        check.same("24: back again", x.changed(), 1);
        x.pupil(0, 15, false);
        x.pupil(0, 0, false);
        check.same("24: of late pupils none was released", x.changed(), 1);
        ScriptRoom y = Check.roomWith("a");
        y.pupil(0, 14, false);
        y.reader(-1, 15, false);
        Check.work(y, 0, 0);
        y.lines(1, 1, 1);
        check.same("14: a grade 0", y.release(), 0);
        Check.scheme(y, 0, "b");
        check.same("24: 0 is not none", y.changed(), 1);
    }

    private static void line(ScriptRoom x, int share, int due) {
        check.same("25: lineOf(" + share + ")", x.lineOf(share), due);
        check.same("26: lineAnew(" + share + ")", x.lineAnew(share), due);
    }

    private static void shares() {
        ScriptRoom x = new ScriptRoom();
        for (int wrong : new int[] {-1, 101, Integer.MAX_VALUE, Integer.MIN_VALUE}) {
            check.fails("25: lineOf(" + wrong + ")", Check.ILLEGAL, () -> x.lineOf(wrong));
            check.fails("26: lineAnew(" + wrong + ")", Check.ILLEGAL, () -> x.lineAnew(wrong));
        }
        for (int share : new int[] {0, 50, 100}) line(x, share, 0);
        x.pupil(0, 0, false);
        for (int share : new int[] {0, 50, 100}) line(x, share, 0);
        ScriptRoom y = roomOf(2, 4, 4, 9);
        line(y, 0, 10);
        line(y, 24, 10);
        line(y, 25, 5);
        line(y, 50, 5);
        line(y, 74, 5);
        line(y, 75, 3);
        line(y, 99, 3);
        line(y, 100, 0);
        y.pupil(0, 0, false);
        line(y, 25, 5);
        line(y, 24, 10);
        ScriptRoom z = roomOf(0, 0, 0);
        line(z, 99, 1);
        line(z, 100, 0);
        line(roomOf(9), 0, 10);
    }

    /** The greatest total that there is: 99 and 99, the better one of two 99, and a gift of 9. */
    private static void sharesOfMany() {
        ScriptRoom x = Check.roomWith("9(9(9a))");
        x.pupil(0, 0, false);
        x.gift(0, 9);
        x.reader(-1, 15, false);
        for (int i = 0; i < 4; i++) Check.work(x, 0, 1);
        check.same("22: the greatest total", x.total(0), 306);
        line(x, 99, 307);
        line(x, 100, 0);
        for (int i = 1; i < 16; i++) {
            x.pupil(0, 15, false);
            x.gift(i, i % 10);
        }
        int[] totals = new int[16];
        for (int i = 0; i < 16; i++) totals[i] = x.total(i);
        for (int share = 0; share <= 100; share++) line(x, share, leastLine(totals, share));
    }

    private static int leastLine(int[] totals, int share) {
        for (int line = 0; ; line++) {
            int reach = 0;
            for (int total : totals) reach += total >= line ? 1 : 0;
            if (reach * 100 <= share * totals.length) return line;
        }
    }
}
