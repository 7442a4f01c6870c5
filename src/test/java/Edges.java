import java.util.ArrayList;
import java.util.LinkedHashMap;
import java.util.List;
import java.util.Map;
import java.util.stream.IntStream;

/** What the tests of the edges share: the words that they stand for, ranges, and rooms that refuse a call. */
final class Edges {
    interface Made {
        ScriptRoom room();
    }

    interface Call {
        void on(ScriptRoom room);
    }

    interface CallWith {
        void on(ScriptRoom room, int value);
    }

    /** Places where a range that is told by masks, signs or narrow types would wrap around. */
    private static final int[] FAR = {
        Integer.MIN_VALUE, Integer.MIN_VALUE + 1, -65536, -256, -16, -4, -2, -1, 0, 1, 4, 8, 16, 32, 64, 100, 128, 256, 1000, 65536,
        1 << 30, Integer.MAX_VALUE - 1, Integer.MAX_VALUE
    };

    private final Check check;
    /** Null where the document is not at hand. */
    private final Document document;
    private final Map<String, List<String>> quotes = new LinkedHashMap<>();
    private String now = "";

    Edges(Check check, Document document) {
        this.check = check;
        this.document = document;
    }

    /** What follows is the test of these words of the document. */
    void words(String section, String words) {
        now = section + ", '" + words + "': ";
        quotes.computeIfAbsent(section, key -> new ArrayList<>()).add(words);
        if (document != null && !document.says(section, words)) check.fail(now + "the document does not say so");
    }

    void same(String what, long got, long want) {
        check.same(now + what, got, want);
    }

    void same(String what, boolean got, boolean want) {
        check.same(now + what, got, want);
    }

    void same(String what, String got, String want) {
        check.same(now + what, got, want);
    }

    /** The call throws what is due, and a room that refused it goes on as one that never heard it. */
    void refuses(String what, Class<?> due, Made made, Call call) {
        ScriptRoom room = made.room();
        check.fails(now + what, due, () -> call.on(room));
        check.same(now + what + " changes nothing", State.of(room), State.of(made.room()));
    }

    /** A room that has just refused the call. */
    ScriptRoom behind(Class<?> due, Made made, Call call) {
        ScriptRoom room = made.room();
        check.fails(now + "the call", due, () -> call.on(room));
        return room;
    }

    void allows(String what, Made made, Call call) {
        ScriptRoom room = made.room();
        check.fails(now + what, null, () -> call.on(room));
    }

    void range(String name, int low, int high, Made made, CallWith call) {
        for (int value : inside(low, high)) allows(name + " " + value, made, room -> call.on(room, value));
        for (int value : outside(low, high)) refuses(name + " " + value, Check.ILLEGAL, made, room -> call.on(room, value));
    }

    /** There are so many of them, numbered from 0. */
    void numbers(String name, int count, Made made, CallWith call) {
        for (int value : inside(0, count - 1)) allows(name + " " + value, made, room -> call.on(room, value));
        for (int value : outside(0, count - 1)) refuses(name + " " + value, Check.BOUNDS, made, room -> call.on(room, value));
    }

    private static int[] inside(int low, int high) {
        int middle = low + (high - low) / 2;
        return IntStream.of(low, low + 1, middle, high - 1, high).filter(v -> v >= low && v <= high).distinct().toArray();
    }

    private static int[] outside(int low, int high) {
        IntStream near = IntStream.of(low - 1, high + 1);
        return IntStream.concat(near, IntStream.of(FAR)).filter(v -> v < low || v > high).distinct().toArray();
    }

    /** Every sentence that names an edge must have been quoted. */
    void end() {
        if (document == null) System.out.println("no ../shared/DOC.md: the quotes were held against nothing");
        else document.unquoted(quotes).forEach(sentence -> check.fail("no test stands for: " + sentence));
        check.end();
    }

    // ---- rooms

    static ScriptRoom room() {
        return new ScriptRoom();
    }

    /** Pupils of school 0 with an answer to question 0 alone; a reader of no school for each sign, an s for a senior. */
    static ScriptRoom room(String scheme, int pupils, String readers) {
        ScriptRoom x = new ScriptRoom();
        Check.scheme(x, 0, scheme);
        for (int i = 0; i < pupils; i++) x.pupil(0, 14, false);
        for (char kind : readers.toCharArray()) x.reader(-1, 15, kind == 's');
        return x;
    }

    /** Pupils without answers, whose totals are these, 0 to 9. */
    static ScriptRoom totals(int... totals) {
        ScriptRoom x = new ScriptRoom();
        for (int i = 0; i < totals.length; i++) {
            x.pupil(0, 15, false);
            x.gift(i, totals[i]);
        }
        return x;
    }

    /** Nothing more can be entered: 16 pupils, 6 readers, 8 seeds, 40 signs, 6 versions; of question 3 alone there are 5. */
    static ScriptRoom full() {
        ScriptRoom x = new ScriptRoom();
        for (int i = 0; i < 23; i++) Check.scheme(x, i % 4, "a");
        for (int i = 0; i < 16; i++) x.pupil(i % 5, i % 3, i % 4 == 0);
        for (int i = 0; i < 6; i++) x.reader(i - 1, 15, i % 2 == 0);
        for (int i = 0; i < 8; i++) x.seed(i % 4, i);
        Check.type(x, "b+c+d+e+f+g+h+a+b+c+d+e+f+g+h+a+b+c+d+2e");
        return x;
    }

    /**
     * Three pupils, five readers: 0 has an answer at hand, 1 a seed, 2 is stopped, 3 is new, 4 read one answer.
     * Three signs are typed; question 1 is read twice; two marks are tolerated.
     */
    static ScriptRoom busy() {
        ScriptRoom x = Check.roomWith("a+2b");
        Check.scheme(x, 0, "2a+b");
        for (int i = 0; i < 3; i++) x.pupil(i, 0, i == 2);
        x.gift(1, 5);
        x.twice(1, true);
        x.tolerance(2);
        for (int i = 0; i < 5; i++) x.reader(i < 3 ? -1 : i, 15, i % 2 == 0);
        x.seed(0, 3);
        x.seed(3, 0);
        for (int i = 0; i < 3; i++) Check.work(x, 1, i);
        for (int i = 0; i < 3; i++) Check.work(x, 2, 3 - i);
        Check.work(x, 2, 0);
        Check.work(x, 4, 1);
        x.next(0);
        x.next(1);
        x.lines(9, 7, 5);
        Check.type(x, "a+c");
        return x;
    }

    /** Two pupils with the grades 2 and 1, released; pupil 0 appealed against question 0, and a senior has it at hand. */
    static ScriptRoom released() {
        ScriptRoom x = Check.roomWith("a+2b+4c");
        x.pupil(0, 12, false);
        x.pupil(1, 14, true);
        x.reader(-1, 15, false);
        x.reader(-1, 15, true);
        for (int points : new int[] {3, 7, 5}) Check.work(x, 0, points);
        x.lines(13, 12, 3);
        x.release();
        x.appeal(0, 0);
        x.next(1);
        return x;
    }
}
