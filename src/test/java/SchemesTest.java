/** Promises 1 to 7 and 16 to 18: a new object, pupils, gifts, the line, schemes. */
public final class SchemesTest {
    private static final Check check = new Check("SchemesTest");

    public static void main(String[] args) {
        newObject();
        pupil();
        gift();
        type();
        schemeFaults();
        schemeVersions();
        twice();
        tolerance();
        markOf();
        writtenInFull();
        check.end();
    }

    private static void newObject() {
        ScriptRoom x = new ScriptRoom();
        check.same("NONE", ScriptRoom.NONE, -1);
        check.same("1: wanted", x.wanted(), 0);
        check.same("1: changed", x.changed(), 0);
        check.same("1: lineOf", x.lineOf(0), 0);
        for (int question = 0; question < 4; question++) check.same("1: versions", x.versions(question), 0);
        check.fails("1: no pupil", Check.BOUNDS, () -> x.total(0));
        check.fails("1: no reader", Check.BOUNDS, () -> x.ofReader(0, 0));
        check.same("1: empty line", x.type('a'), 1);
        check.same("1: a first pupil", x.pupil(0, 15, false), 0);
        check.same("1: all lines 0", x.grade(0, false), 3);
        check.same("1: two rooms share nothing", new ScriptRoom().type('a'), 1);
    }

    private static void pupil() {
        ScriptRoom x = new ScriptRoom();
        check.fails("2: school -1", Check.ILLEGAL, () -> x.pupil(-1, 0, false));
        check.fails("2: school 5", Check.ILLEGAL, () -> x.pupil(5, 0, false));
        check.fails("2: lacks -1", Check.ILLEGAL, () -> x.pupil(0, -1, false));
        check.fails("2: lacks 16", Check.ILLEGAL, () -> x.pupil(0, 16, false));
        check.fails("2: school least int", Check.ILLEGAL, () -> x.pupil(Integer.MIN_VALUE, 0, false));
        check.fails("2: lacks greatest int", Check.ILLEGAL, () -> x.pupil(0, Integer.MAX_VALUE, false));
        for (int i = 0; i < 16; i++) check.same("2: pupil", x.pupil(i % 5, i, i % 2 == 0), i);
        check.fails("2: a 17th", Check.STATE, () -> x.pupil(0, 0, false));
        check.fails("2: a 17th of no school", Check.ILLEGAL, () -> x.pupil(5, 0, false));
        check.same("2: lacks 15 leaves no answer", x.total(15), 0);
        int wanted = 0;
        for (int lacks = 0; lacks < 16; lacks++) {
            for (int q = 0; q < 4; q++) {
                int there = 1 - (lacks >> q & 1);
                check.same("2: an answer is wanted if it is there", x.answer(lacks, q, 2), there);
                check.same("2: no answer has 0", x.mark(lacks, q), there == 0 ? 0 : -1);
                wanted += there;
            }
        }
        check.same("2: wanted", x.wanted(), wanted);
    }

    private static void gift() {
        ScriptRoom x = new ScriptRoom();
        check.fails("3: no pupil", Check.BOUNDS, () -> x.gift(0, 0));
        check.fails("3: no pupil comes first", Check.BOUNDS, () -> x.gift(0, 10));
        x.pupil(0, 15, false);
        x.pupil(0, 15, false);
        check.fails("3: pupil -1", Check.BOUNDS, () -> x.gift(-1, 0));
        check.fails("3: pupil 2", Check.BOUNDS, () -> x.gift(2, 0));
        check.fails("3: marks 10", Check.ILLEGAL, () -> x.gift(0, 10));
        check.fails("3: marks -1", Check.ILLEGAL, () -> x.gift(0, -1));
        check.same("3: it was 0", x.gift(0, 9), 0);
        check.same("3: it was 9", x.gift(0, 4), 9);
        check.same("3: the other was 0", x.gift(1, 0), 0);
        check.same("3: into the total", x.total(0), 4);
        check.fails("3: too much", Check.ILLEGAL, () -> x.gift(0, 99));
        check.same("3: nothing changed", x.total(0), 4);
    }

    private static void type() {
        ScriptRoom x = new ScriptRoom();
        check.fails("4: 31", Check.ILLEGAL, () -> x.type(31));
        check.fails("4: 127", Check.ILLEGAL, () -> x.type(127));
        check.fails("4: -1", Check.ILLEGAL, () -> x.type(-1));
        check.same("4: 32", x.type(32), 1);
        check.same("4: 126", x.type(126), 2);
        for (int i = 3; i <= 40; i++) check.same("4: type", x.type('a'), i);
        check.fails("4: a 41st", Check.STATE, () -> x.type('a'));
        check.fails("4: a 41st that is none", Check.ILLEGAL, () -> x.type(127));
        check.same("4: read", x.scheme(0), -1);
        check.same("4: empty behind the call", x.type('a'), 1);
    }

    private static void fault(String text, int place) {
        ScriptRoom x = new ScriptRoom();
        check.same("5: fault of '" + text + "'", Check.scheme(x, 2, text), -1 - place);
        check.same("5: no version by a fault", x.versions(2), 0);
        check.same("5: empty behind a fault", x.type('a'), 1);
    }

    private static void schemeFaults() {
        fault("", 0);
        fault(" a", 0);
        fault("0a", 0);
        fault("i", 0);
        fault("A", 0);
        fault("`", 0);
        fault("+a", 0);
        fault("|", 0);
        fault(")", 0);
        fault("<1", 0);
        fault("1", 1);
        fault("12a", 1);
        fault("1+a", 1);
        fault("a1", 1);
        fault("aa", 1);
        fault("a(b)", 1);
        fault("a|b", 1);
        fault("a)", 1);
        fault("a+", 2);
        fault("a++b", 2);
        fault("a +b", 1);
        fault("a<", 2);
        fault("a<a", 2);
        fault("a<-1", 2);
        fault("a<1a", 3);
        fault("a<1+b", 3);
        fault("a<123", 4);
        fault("a<12 ", 4);
        fault("(", 1);
        fault("()", 1);
        fault("(a", 2);
        fault("(a+b", 4);
        fault("(a|", 3);
        fault("(a|)", 3);
        fault("(a||b)", 3);
        fault("(a<1)", 2);
        fault("(a)b", 3);
        fault("(a))", 3);
        fault("(a)|b", 3);
        fault("(((((a)))))", 4);
        fault("2(2(2(2(2(a)))))", 9);
        fault("((((a+(b)))))", 6);
        fault("((((a))))+((((b", 15);
        fault("a+a+a+a+a+a+a+a+a+a+a+a+a+a+a+a+a+a+a+a+", 40);
        ScriptRoom x = new ScriptRoom();
        check.same("5: brackets left open", Check.scheme(x, 0, "(((a"), -5);
        check.same("5: are open no more", Check.scheme(x, 0, "a|b"), -2);
        check.same("5: and not missed", Check.scheme(x, 0, "((((a))))"), 0);
        check.same("5: a number left out", Check.scheme(x, 0, "9a<"), -4);
        check.same("5: the next without one", Check.scheme(x, 0, "9a"), 1);
        check.same("17: by no number", x.markOf(0, 1, 1), 9);
        check.same("5: a number", Check.scheme(x, 0, "9a<5"), 2);
        check.same("5: then none", Check.scheme(x, 0, "9a"), 3);
        check.same("17: by no number again", x.markOf(0, 3, 1), 9);
    }

    private static void schemeVersions() {
        ScriptRoom x = new ScriptRoom();
        check.fails("5: question -1", Check.BOUNDS, () -> x.scheme(-1));
        check.fails("5: question 4", Check.BOUNDS, () -> x.scheme(4));
        x.type('a');
        check.fails("5: question 5", Check.BOUNDS, () -> x.scheme(5));
        check.same("5: the line stays", Check.type(x, "+b"), 3);
        x.type('a');
        check.same("5: what was left and what came", x.scheme(3), -4);
        for (int i = 0; i < 6; i++) {
            check.same("5: a fault is no version", Check.scheme(x, 3, "b)"), -2);
            check.same("5: version", Check.scheme(x, 3, "a"), i);
            check.same("16: versions", x.versions(3), i + 1);
        }
        x.type('?');
        check.fails("5: a seventh", Check.STATE, () -> x.scheme(3));
        check.same("5: the line stays at a seventh", x.type('a'), 2);
        check.same("5: and is read by another question", x.scheme(0), -1);
        check.same("16: versions of the others", x.versions(0) + x.versions(1) + x.versions(2), 0);
        check.same("16: versions at most", x.versions(3), 6);
        check.fails("16: question -1", Check.BOUNDS, () -> x.versions(-1));
        check.fails("16: question 4", Check.BOUNDS, () -> x.versions(4));
    }

    private static void twice() {
        ScriptRoom x = new ScriptRoom();
        check.fails("6: question -1", Check.BOUNDS, () -> x.twice(-1, true));
        check.fails("6: question 4", Check.BOUNDS, () -> x.twice(4, true));
        x.pupil(0, 0, false);
        check.same("6: it was not", x.twice(1, true), false);
        check.same("6: it was", x.twice(1, true), true);
        check.same("6: another was not", x.twice(0, false), false);
        check.same("6: two are wanted", x.answer(0, 1, 2), 2);
        check.same("6: one is wanted of another", x.answer(0, 0, 2), 1);
        check.same("6: it was still", x.twice(1, false), true);
        check.same("6: one is wanted again", x.answer(0, 1, 2), 1);
    }

    private static void tolerance() {
        ScriptRoom x = new ScriptRoom();
        check.fails("7: -1", Check.ILLEGAL, () -> x.tolerance(-1));
        check.fails("7: 10", Check.ILLEGAL, () -> x.tolerance(10));
        check.same("7: 1 at first", x.tolerance(9), 1);
        check.same("7: it was 9", x.tolerance(0), 9);
        check.same("7: it was 0", x.tolerance(0), 0);
    }

    private static void marks(String text, int... pointsAndMarks) {
        ScriptRoom x = new ScriptRoom();
        check.same("17: '" + text + "' is a scheme", Check.scheme(x, 0, text), 0);
        for (int i = 0; i + 1 < pointsAndMarks.length; i += 2) {
            int points = pointsAndMarks[i];
            check.same("17: " + points + " by " + text, x.markOf(0, 0, points), pointsAndMarks[i + 1]);
        }
    }

    private static void markOf() {
        marks("a", 0, 0, 1, 1, 254, 0, 255, 1);
        marks("h", 127, 0, 128, 1);
        marks("2a+3b+c", 1, 2, 2, 3, 4, 1, 7, 6, 255, 6);
        marks("a+a", 1, 2);
        marks("2(a|2b)", 1, 2, 2, 4, 3, 4, 128, 0, 255, 4);
        marks("(a+b|2c)", 3, 2, 4, 2, 7, 2, 1, 1, 0, 0);
        marks("(a|b|c)", 0, 0, 1, 1, 2, 1, 4, 1, 7, 1);
        marks("3(2(a|b)+c)+d", 1, 6, 2, 6, 4, 3, 7, 9, 15, 10);
        marks("(3(a|b)+(c|2d)|5e)", 1, 3, 8, 2, 9, 5, 16, 5, 25, 5, 13, 5);
        marks("9a<5", 1, 5, 0, 0);
        marks("9a<05", 1, 5);
        marks("9a<9", 1, 9);
        marks("9a<12", 1, 9);
        marks("a<0", 1, 0);
        marks("a<00", 1, 0);
        marks("9(9a)", 1, 81);
        marks("9(9a)+9b+9c", 1, 81, 3, 90, 7, 99);
        marks("9(9(9(9(9a))))", 1, 99, 0, 0);
        marks("9(9(9a))<98", 1, 98);
        marks("9(9(9a))<99", 1, 99);
        marks("9(9(9a)|b)+c", 1, 99, 2, 9, 6, 10, 4, 1);
        marks("(a|b)+(c|d)", 5, 2, 10, 2, 3, 1, 15, 2);
        marks("a+b+c+d+e+f+g+h", 255, 8, 128, 1, 170, 4);
        ScriptRoom x = new ScriptRoom();
        Check.scheme(x, 1, "a");
        Check.scheme(x, 1, "2a");
        check.same("17: an earlier version", x.markOf(1, 0, 1), 1);
        check.same("17: a later version", x.markOf(1, 1, 1), 2);
        check.fails("17: question 4", Check.BOUNDS, () -> x.markOf(4, 0, 0));
        check.fails("17: question -1", Check.BOUNDS, () -> x.markOf(-1, 0, 0));
        check.fails("17: version 2", Check.BOUNDS, () -> x.markOf(1, 2, 0));
        check.fails("17: version -1", Check.BOUNDS, () -> x.markOf(1, -1, 0));
        check.fails("17: version of another", Check.BOUNDS, () -> x.markOf(0, 0, 0));
        check.fails("17: no version comes first", Check.BOUNDS, () -> x.markOf(1, 2, 256));
        check.fails("17: points 256", Check.ILLEGAL, () -> x.markOf(1, 0, 256));
        check.fails("17: points -1", Check.ILLEGAL, () -> x.markOf(1, 0, -1));
    }

    private static void inFull(String typed, String due) {
        ScriptRoom x = new ScriptRoom();
        Check.scheme(x, 3, typed);
        check.same("18: " + typed, Check.written(x, 3, 0), due);
        check.same("18: behind the last", x.written(3, 0, due.length()), 0);
        check.same("18: far behind the last", x.written(3, 0, Integer.MAX_VALUE), 0);
    }

    private static void writtenInFull() {
        inFull("a", "1a");
        inFull("1a", "1a");
        inFull("9h", "9h");
        inFull("a+2b+c", "1a+2b+1c");
        inFull("(a)", "1(1a)");
        inFull("2(a|b+3c)+d<07", "2(1a|1b+3c)+1d<7");
        inFull("((((a))))", "1(1(1(1(1a))))");
        inFull("a<0", "1a<0");
        inFull("a<00", "1a<0");
        inFull("a<9", "1a<9");
        inFull("a<10", "1a<10");
        inFull("a<99", "1a<99");
        String typed = "a+a+a+a+a+a+a+a+a+a+a+a+a+a+a+a+a+a+a<09";
        inFull(typed, typed.replace("a", "1a").replace("<09", "<9"));
        ScriptRoom x = new ScriptRoom();
        Check.scheme(x, 2, "a+b+c");
        Check.scheme(x, 2, "h<1");
        check.same("18: version 0", Check.written(x, 2, 0), "1a+1b+1c");
        check.same("18: version 1", Check.written(x, 2, 1), "1h<1");
        Check.scheme(x, 2, "a+b+c+");
        check.same("18: a fault leaves the versions", Check.written(x, 2, 1), "1h<1");
        check.fails("18: question -1", Check.BOUNDS, () -> x.written(-1, 0, 0));
        check.fails("18: question 4", Check.BOUNDS, () -> x.written(4, 0, 0));
        check.fails("18: version -1", Check.BOUNDS, () -> x.written(2, -1, 0));
        check.fails("18: version 2", Check.BOUNDS, () -> x.written(2, 2, 0));
        check.fails("18: place -1", Check.BOUNDS, () -> x.written(2, 0, -1));
        check.fails("18: place least int", Check.BOUNDS, () -> x.written(2, 0, Integer.MIN_VALUE));
    }
}
