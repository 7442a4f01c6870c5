import java.util.Arrays;

/** The edges of promises 4, 5 and 16 to 18, and of what the terms say of schemes. */
final class EdgesOfSchemes {
    private static final String DIGITS = "123456789";
    private static final String LETTERS = "abcdefgh";
    private static final String PART = DIGITS + LETTERS + "(";

    private final Edges edges;

    EdgesOfSchemes(Edges edges) {
        this.edges = edges;
    }

    void all() {
        line();
        lineIsEmptyBehindTheCall();
        number();
        anyNumberOfParts();
        digits();
        letters();
        anyNumberOfSums();
        noBlanks();
        openBrackets();
        faultFirst();
        faultFifthBracket();
        faultAtTheEnd();
        points();
        greatest();
        mostMark();
        versionsFromZero();
        typeSign();
        typeOutOfRange();
        typeFull();
        schemeReturns();
        schemeNoSuchQuestion();
        schemeSeventh();
        versionsNoSuchQuestion();
        markOfPoints();
        markOfNoSuch();
        markOfOutOfRange();
        writtenDigits();
        writtenNumber();
        writtenPlace();
        writtenBehindTheLast();
        writtenNoSuch();
    }

    private static int result(String text) {
        return Check.scheme(new ScriptRoom(), 0, text);
    }

    private void isScheme(String text) {
        edges.same("'" + text + "'", result(text), 0);
    }

    private void hasFault(String text, int place) {
        edges.same("'" + text + "'", result(text), -1 - place);
    }

    private static int mark(String text, int points) {
        ScriptRoom x = new ScriptRoom();
        Check.scheme(x, 0, text);
        return x.markOf(0, 0, points);
    }

    private void isWorth(String text, int points, int due) {
        edges.same(points + " by '" + text + "'", mark(text, points), due);
    }

    private static String full(String text) {
        ScriptRoom x = new ScriptRoom();
        Check.scheme(x, 0, text);
        return Check.written(x, 0, 0);
    }

    /** Of all signs that can be typed these alone can stand behind the text. */
    private void goesOn(String text, String signs, boolean mayEnd) {
        for (char sign = 32; sign < 127; sign++) {
            int got = result(text + sign);
            boolean isTaken = got == 0 || got == -1 - text.length() - 1;
            if (signs.indexOf(sign) >= 0) edges.same("'" + text + sign + "' up to its end", isTaken, true);
            else edges.same("'" + text + sign + "'", got, -1 - text.length());
        }
        edges.same("'" + text + "' at its end", result(text), mayEnd ? 0 : -1 - text.length());
    }

    // ---- terms

    private void line() {
        edges.words("Terms", "There is a line of at most 40 signs");
        ScriptRoom x = new ScriptRoom();
        edges.same("40 signs", Check.type(x, "2a+a+a+a+a+a+a+a+a+a+a+a+a+a+a+a+a+a+a+h"), 40);
        edges.same("are read", x.scheme(0), 0);
        edges.same("all of them", x.markOf(0, 0, 255), 21);
        edges.same("the last one of them", x.markOf(0, 0, 128), 1);
    }

    private void lineIsEmptyBehindTheCall() {
        edges.words("Terms", "that is empty behind the call that reads it.");
        for (String text : new String[] {"", "a", "a+", ")", "2a+a+a+a+a+a+a+a+a+a+a+a+a+a+a+a+a+a+a+h"}) {
            ScriptRoom x = new ScriptRoom();
            Check.scheme(x, 1, text);
            edges.same("an empty one behind '" + text + "'", x.scheme(1), -1);
            edges.same("the first sign behind '" + text + "'", x.type('a'), 1);
        }
    }

    private void number() {
        edges.words("Terms", "perhaps \"<\" and a NUMBER of one or two digits.");
        goesOn("a<", "0" + DIGITS, false);
        goesOn("a<0", "0" + DIGITS, true);
        goesOn("a<9", "0" + DIGITS, true);
        goesOn("a<00", "", true);
        goesOn("a<99", "", true);
        goesOn("(a)<1", "0" + DIGITS, true);
    }

    private void anyNumberOfParts() {
        edges.words("Terms", "A SUM is a PART, any number of times \"+\" and a PART.");
        goesOn("", PART, false);
        goesOn("a+", PART, false);
        goesOn("(a)+", PART, false);
        goesOn("a+b+c+d+e+f+g+h+a+b+c+d+e+f+g+h+a+b+c+", PART, false);
        StringBuilder text = new StringBuilder("a");
        for (int parts = 1; parts <= 20; parts++) {
            isWorth(text.toString(), 1, parts);
            text.append("+a");
        }
    }

    private void digits() {
        edges.words("Terms", "A PART is perhaps a digit 1 to 9");
        for (char digit = '1'; digit <= '9'; digit++) isWorth(digit + "a", 1, digit - '0');
        isWorth("a", 1, 1);
        hasFault("0a", 0);
        hasFault("/a", 0);
        hasFault(":a", 0);
        hasFault("(0a)", 1);
        goesOn("1", LETTERS + "(", false);
        goesOn("9", LETTERS + "(", false);
        goesOn("a+5", LETTERS + "(", false);
        goesOn("(5", LETTERS + "(", false);
    }

    private void letters() {
        edges.words("Terms", "a letter a to h");
        for (char letter = 'a'; letter <= 'h'; letter++) goesOn("" + letter, "+<", true);
        hasFault("`", 0);
        hasFault("i", 0);
        hasFault("A", 0);
        hasFault("H", 0);
        hasFault("2i", 1);
    }

    private void anyNumberOfSums() {
        edges.words("Terms", "or \"(\", a SUM, any number of times \"|\" and a SUM, and \")\".");
        goesOn("(", PART, false);
        goesOn("(a", "+|)", false);
        goesOn("(a|", PART, false);
        goesOn("(a|b", "+|)", false);
        goesOn("(a|b+", PART, false);
        goesOn("(a)", "+<", true);
        goesOn("((a)", "+|)", false);
        isScheme("(a)");
        isScheme("(a|b|c|d|e|f|g|h|a|b|c|d|e|f|g|h|a|b|c)");
        isWorth("(a|b|c|d|e|f|g|h|a|b|c|d|e|f|g|h|a|b|2c)", 4, 2);
    }

    private void noBlanks() {
        edges.words("Terms", "There are no blanks");
        String text = "2(a+b|c)+d<12";
        for (int place = 0; place <= text.length(); place++) hasFault(text.substring(0, place) + " " + text.substring(place), place);
        hasFault(" ", 0);
    }

    private void openBrackets() {
        edges.words("Terms", "at most 4 \"(\" are open at a time.");
        isScheme("((((a))))");
        hasFault("(((((a)))))", 4);
        isScheme("(a)+(a)+(a)+(a)+(a)+(a)+(a)+(a)+(a)+(a)");
        isScheme("((((a))))+((((a))))+((((a))))+((((a))))");
        isScheme("((((a)+(a))))");
        isScheme("((((a))|((a)|(a))))");
        hasFault("((((a)+((a)))))", 8);
        ScriptRoom x = new ScriptRoom();
        edges.same("four left open by a fault", Check.scheme(x, 0, "((((a?"), -6);
        edges.same("are open no more: |", Check.scheme(x, 0, "a|b"), -2);
        edges.same("are open no more: )", Check.scheme(x, 0, "a)"), -2);
        edges.same("are open no more: the end", Check.scheme(x, 0, "a"), 0);
        edges.same("are open no more: four others", Check.scheme(x, 0, "((((a))))"), 1);
        goesOn("(((", PART, false);
        goesOn("((((", DIGITS + LETTERS, false);
        goesOn("((((5", LETTERS, false);
        goesOn("((((a", "+|)", false);
        goesOn("((((a+", DIGITS + LETTERS, false);
        goesOn("((((a|", DIGITS + LETTERS, false);
        goesOn("((((a)", "+|)", false);
        goesOn("((((a)+", PART, false);
        goesOn("((((a)|", PART, false);
        goesOn("((((a))))", "+<", true);
        goesOn("((((a))))+", PART, false);
        goesOn("((((a))))+((((", DIGITS + LETTERS, false);
    }

    private void faultFirst() {
        edges.words("Terms", "Its FAULT is at the place, from 0, of the first sign that cannot stand there");
        hasFault("?a?", 0);
        hasFault("a?b?", 1);
        hasFault("a)(", 1);
        hasFault("a|b)", 1);
        hasFault("(a<1)+", 2);
        hasFault("a+a+a+a+a+a+a+a+a+a+a+a+a+a+a+a+a+a+a+a+", 40);
        hasFault("a+a+a+a+a+a+a+a+a+a+a+a+a+a+a+a+a+a+a+a?", 39);
        hasFault("????????????????????????????????????????", 0);
    }

    private void faultFifthBracket() {
        edges.words("Terms", "(a fifth \"(\" too)");
        hasFault("(((((", 4);
        hasFault("((((((", 4);
        hasFault("1(1(1(1(1(", 9);
        hasFault("((((a+2(", 7);
        hasFault("((((a|(", 6);
        hasFault("((((a)+((", 8);
        hasFault("((((a))))+(((((", 14);
    }

    private void faultAtTheEnd() {
        edges.words("Terms", "the end of the line among them.");
        String text = "2(a+3(b|c)|d)+h<07";
        int[] whole = {13, 15, 17, 18};
        for (int length = 0; length <= text.length(); length++) {
            int here = length;
            boolean isWhole = Arrays.stream(whole).anyMatch(w -> w == here);
            edges.same("the first " + length + " of '" + text + "'", result(text.substring(0, length)), isWhole ? 0 : -1 - length);
        }
        String long40 = "((((a+a+a+a+a+a+a+a+a+a+a+a+a+a+a+a)))+a";
        edges.same("of 40 signs", long40.length(), 40);
        hasFault(long40, 40);
    }

    private void points() {
        edges.words("Terms", "By a set of points, a as bit 0 to h as bit 7, a letter is 1 if it is in the set, otherwise 0");
        for (int bit = 0; bit < 8; bit++) {
            String letter = "" + (char) ('a' + bit);
            isWorth(letter, 1 << bit, 1);
            isWorth(letter, 255, 1);
            isWorth(letter, 255 - (1 << bit), 0);
            isWorth(letter, 0, 0);
        }
    }

    private void greatest() {
        edges.words("Terms", "a \"(\" .. \")\" the greatest of its SUMs, a PART that times its digit, a SUM its PARTs together");
        isWorth("(a|b|c)", 0, 0);
        isWorth("(3a|2b|c)", 7, 3);
        isWorth("(a|3b|2c)", 7, 3);
        isWorth("(a|2b|3c)", 7, 3);
        isWorth("(2a|2b)", 3, 2);
        isWorth("(2a|b+b)", 3, 2);
        isWorth("(2a|b+b+b)", 3, 3);
        isWorth("9(a|2b)", 3, 18);
        isWorth("2(3(a|2b)|5c)+d", 15, 13);
        isWorth("2(3(a|2b)|5c)+d", 5, 10);
        isWorth("2(c|3(a|2b)+d)+e", 10, 14);
        isWorth("2(2(2(2(a|b)|b)|c)|d)", 1, 16);
        isWorth("2(2(2(2(a|b)|b)|c)|d)", 8, 2);
        isWorth("(9a)+(b)", 1, 9);
        isWorth("(9a|b)+(b|2c)+(8d)", 1, 9);
        isWorth("((9a)|(b)+(c))+((b)|(c))", 3, 10);
        ScriptRoom x = new ScriptRoom();
        Check.scheme(x, 0, "2(a|3(b|9c))+(d)");
        int[][] due = {{4, 54}, {0, 0}, {2, 6}, {1, 2}, {8, 1}, {12, 55}, {0, 0}};
        for (int[] d : due) edges.same("one behind the other, " + d[0], x.markOf(0, 0, d[0]), d[1]);
    }

    private void mostMark() {
        edges.words("Terms", "a mark is that of the SUM, at most the NUMBER, and at most 99.");
        isWorth("5a<6", 1, 5);
        isWorth("5a<5", 1, 5);
        isWorth("5a<4", 1, 4);
        isWorth("5a<0", 1, 0);
        isWorth("5a<00", 1, 0);
        isWorth("5a<04", 1, 4);
        isWorth("5a<40", 1, 5);
        isWorth("5a<4", 0, 0);
        isWorth("2(7(7a))", 1, 98);
        isWorth("9(9a)+9(2a)", 1, 99);
        isWorth("9(9a)+9(2a)+b", 1, 99);
        isWorth("9(9a)+9(2a)+b", 3, 99);
        isWorth("9(9a)+9(2a)+b<99", 3, 99);
        isWorth("9(9a)+9(2a)+b<98", 3, 98);
        isWorth("9(9(9(9(9a))))+9(9(9(9(9h))))", 129, 99);
        isWorth("9(9(9(9(9a))))+9(9(9(9(9h))))", 126, 0);
    }

    private void versionsFromZero() {
        edges.words("Terms", "A question has its schemes in versions, from 0; the latest one holds.");
        ScriptRoom x = Edges.room("a", 1, "j");
        Check.work(x, 0, 1);
        edges.same("by version 0", x.mark(0, 0), 1);
        for (int version = 1; version < 6; version++) {
            edges.same("the version", Check.scheme(x, 0, (version + 1) + "a"), version);
            edges.same("by version " + version, x.mark(0, 0), version + 1);
            edges.same("version 0 is still there", x.markOf(0, 0, 1), 1);
        }
    }

    // ---- promises

    private void typeSign() {
        edges.words("Promise 4", "sign: its code, 32 to 126");
        edges.range("sign", 32, 126, Edges::busy, ScriptRoom::type);
        for (int sign = 32; sign < 127; sign++) edges.same("the code " + sign, new ScriptRoom().type(sign), 1);
    }

    private void typeOutOfRange() {
        edges.words("Promise 4", "Throws IllegalArgumentException if sign is out of range");
        edges.refuses("31", Check.ILLEGAL, Edges::room, x -> x.type(31));
        edges.refuses("127", Check.ILLEGAL, Edges::room, x -> x.type(127));
        edges.refuses("a letter 65536 on", Check.ILLEGAL, Edges::room, x -> x.type('a' + 65536));
        edges.refuses("ahead of the full line: 31", Check.ILLEGAL, Edges::full, x -> x.type(31));
        edges.refuses("ahead of the full line: 127", Check.ILLEGAL, Edges::full, x -> x.type(127));
    }

    private static ScriptRoom typed(int signs) {
        ScriptRoom x = new ScriptRoom();
        for (int i = 0; i < signs; i++) x.type(i % 2 == 0 ? 'a' : '+');
        return x;
    }

    private void typeFull() {
        edges.words("Promise 4", "Throws IllegalStateException if it has 40");
        edges.same("a 40th", typed(39).type('a'), 40);
        edges.refuses("a 41st", Check.STATE, () -> typed(40), x -> x.type('a'));
        edges.refuses("a 41st that could not stand there", Check.STATE, Edges::full, x -> x.type(' '));
        ScriptRoom x = typed(40);
        x.scheme(0);
        edges.same("behind the call that reads it", x.type('a'), 1);
    }

    private void schemeReturns() {
        edges.words("Promise 5", "Returns the version; -1 less the place of the FAULT.");
        ScriptRoom x = new ScriptRoom();
        edges.same("an empty line", x.scheme(0), -1);
        edges.same("place 0", Check.scheme(x, 0, "?"), -1);
        edges.same("the first version", Check.scheme(x, 0, "a"), 0);
        edges.same("place 1", Check.scheme(x, 0, "a?"), -2);
        edges.same("the next version", Check.scheme(x, 0, "a"), 1);
        edges.same("another question's first", Check.scheme(x, 3, "a"), 0);
        edges.same("place 39", Check.scheme(x, 0, "a+a+a+a+a+a+a+a+a+a+a+a+a+a+a+a+a+a+a+a?"), -40);
        edges.same("place 40", Check.scheme(x, 0, "a+a+a+a+a+a+a+a+a+a+a+a+a+a+a+a+a+a+a+a+"), -41);
        edges.same("a fault is no version", x.versions(0), 2);
    }

    private void schemeNoSuchQuestion() {
        edges.words("Promise 5", "Throws IndexOutOfBoundsException if there is no such question");
        edges.numbers("question", 4, Edges::busy, ScriptRoom::scheme);
        edges.numbers("question", 4, Edges::room, ScriptRoom::scheme);
        edges.refuses("where nothing more can be entered", Check.BOUNDS, Edges::full, x -> x.scheme(4));
    }

    private static ScriptRoom versions(int many, String typed) {
        ScriptRoom x = new ScriptRoom();
        for (int i = 0; i < many; i++) Check.scheme(x, 2, "a");
        Check.type(x, typed);
        return x;
    }

    private void schemeSeventh() {
        edges.words("Promise 5", "Throws IllegalStateException if it has 6 versions; the line stays");
        edges.same("a sixth", versions(5, "2a").scheme(2), 5);
        edges.same("a fault behind the fifth", versions(5, "2").scheme(2), -2);
        for (String text : new String[] {"", "2a", "2", "?", "2a+a+a+a+a+a+a+a+a+a+a+a+a+a+a+a+a+a+a+h"}) {
            edges.refuses("a seventh, '" + text + "'", Check.STATE, () -> versions(6, text), x -> x.scheme(2));
            ScriptRoom x = edges.behind(Check.STATE, () -> versions(6, text), r -> r.scheme(2));
            edges.same("the line stays", x.scheme(1), result(text));
            edges.same("there are six still", x.versions(2), 6);
        }
    }

    private void versionsNoSuchQuestion() {
        edges.words("Promise 16", "Throws IndexOutOfBoundsException if there is no such question");
        edges.numbers("question", 4, Edges::busy, ScriptRoom::versions);
        edges.numbers("question", 4, Edges::room, ScriptRoom::versions);
        for (int many = 0; many <= 6; many++) {
            edges.same("so many there are", versions(many, "").versions(2), many);
            edges.same("none of another question", versions(many, "").versions(3), 0);
        }
    }

    private void markOfPoints() {
        edges.words("Promise 17", "points: 0 to 255");
        edges.range("points", 0, 255, Edges::busy, (x, points) -> x.markOf(0, 1, points));
        edges.range("points", 0, 255, Edges::released, (x, points) -> x.markOf(3, 0, points));
    }

    private void markOfNoSuch() {
        edges.words("Promise 17", "Throws IndexOutOfBoundsException if there is no such question or version");
        edges.numbers("question", 4, Edges::busy, (x, question) -> x.markOf(question, 0, 0));
        edges.numbers("version", 2, Edges::busy, (x, version) -> x.markOf(0, version, 255));
        edges.numbers("version", 1, Edges::busy, (x, version) -> x.markOf(1, version, 255));
        edges.numbers("version", 6, Edges::full, (x, version) -> x.markOf(2, version, 0));
        edges.numbers("version", 5, Edges::full, (x, version) -> x.markOf(3, version, 0));
        edges.refuses("without a scheme", Check.BOUNDS, () -> versions(6, ""), x -> x.markOf(1, 0, 0));
        edges.refuses("ahead of the points: question", Check.BOUNDS, Edges::busy, x -> x.markOf(4, 0, 256));
        edges.refuses("ahead of the points: version", Check.BOUNDS, Edges::busy, x -> x.markOf(0, 2, 256));
        edges.refuses("ahead of the points: version -1", Check.BOUNDS, Edges::busy, x -> x.markOf(0, -1, -1));
    }

    private void markOfOutOfRange() {
        edges.words("Promise 17", "Throws IllegalArgumentException if points is out of range");
        edges.refuses("256", Check.ILLEGAL, Edges::full, x -> x.markOf(2, 5, 256));
        edges.refuses("-1", Check.ILLEGAL, Edges::full, x -> x.markOf(0, 0, -1));
    }

    private void isWritten(String text, String due) {
        edges.same("'" + text + "'", full(text), due);
    }

    private void writtenDigits() {
        edges.words("Promise 18", "each PART with its digit, 1 where there was none");
        isWritten("a", "1a");
        isWritten("1a", "1a");
        isWritten("9h", "9h");
        isWritten("(a)", "1(1a)");
        isWritten("1(1a)", "1(1a)");
        isWritten("((((a))))", "1(1(1(1(1a))))");
        isWritten("(a|2b+c|(d))", "1(1a|2b+1c|1(1d))");
        isWritten("a+a+a+a+a+a+a+a+a+a+a+a+a+a+a+a+a+a+a+a", "1a+1a+1a+1a+1a+1a+1a+1a+1a+1a+1a+1a+1a+1a+1a+1a+1a+1a+1a+1a");
    }

    private void writtenNumber() {
        edges.words("Promise 18", "the NUMBER, if there is one, without a 0 ahead, 0 as 0.");
        isWritten("a", "1a");
        isWritten("a<0", "1a<0");
        isWritten("a<00", "1a<0");
        isWritten("a<1", "1a<1");
        isWritten("a<01", "1a<1");
        isWritten("a<09", "1a<9");
        isWritten("a<10", "1a<10");
        isWritten("a<90", "1a<90");
        isWritten("a<99", "1a<99");
    }

    private void writtenPlace() {
        edges.words("Promise 18", "place: 0 for the first one");
        ScriptRoom x = new ScriptRoom();
        Check.scheme(x, 3, "h+2(a|b)<07");
        String due = "1h+2(1a|1b)<7";
        for (int place = 0; place < due.length(); place++) edges.same("place " + place, x.written(3, 0, place), due.charAt(place));
    }

    private void writtenBehindTheLast() {
        edges.words("Promise 18", "Returns the sign; a 0 behind the last one.");
        ScriptRoom x = new ScriptRoom();
        Check.scheme(x, 0, "a+b+c+d");
        Check.scheme(x, 0, "9a");
        Check.scheme(x, 0, "a<9");
        String[] due = {"1a+1b+1c+1d", "9a", "1a<9"};
        for (int version = 0; version < 3; version++) {
            int length = due[version].length();
            edges.same("the last one", x.written(0, version, length - 1), due[version].charAt(length - 1));
            for (int place : new int[] {length, length + 1, 40, 80, 1000, 1 << 30, Integer.MAX_VALUE}) {
                edges.same("place " + place, x.written(0, version, place), 0);
            }
        }
    }

    private void writtenNoSuch() {
        edges.words("Promise 18", "Throws IndexOutOfBoundsException if there is no such question or version, or place is below 0");
        edges.numbers("question", 4, Edges::busy, (x, question) -> x.written(question, 0, 0));
        edges.numbers("version", 2, Edges::busy, (x, version) -> x.written(0, version, 0));
        edges.numbers("version", 6, Edges::full, (x, version) -> x.written(2, version, 0));
        edges.numbers("version", 5, Edges::full, (x, version) -> x.written(3, version, 0));
        edges.refuses("without a scheme", Check.BOUNDS, () -> versions(6, ""), x -> x.written(3, 0, 0));
        for (int place : new int[] {-1, -2, -80, Integer.MIN_VALUE}) {
            edges.refuses("place " + place, Check.BOUNDS, Edges::busy, x -> x.written(0, 1, place));
        }
    }
}
