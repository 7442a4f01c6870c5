import java.util.Random;

/** Long runs of calls, the same for the room and for the model: all promises at once, wrong calls among right ones. */
public final class ModelTest {
    private static final int RUNS = 2000;
    private static final int CALLS = 511;
    private static final Check check = new Check("ModelTest");

    private interface Call {
        long on();
    }

    private static final class Pair {
        final ScriptRoom room = new ScriptRoom();
        final Model model = new Model();
        final StringBuilder told = new StringBuilder();
        int calls = 0;
    }

    /** What the runs came by; a run that never meets these proves little. */
    private static int thirds, voids, appeals, changes, releases, rereads, settled, lates;

    private static String answerOf(Call call) {
        try {
            return Long.toString(call.on());
        } catch (RuntimeException e) {
            return "throws." + e.getClass().getSimpleName();
        }
    }

    private static boolean step(Pair pair, String name, Call onRoom, Call onModel) {
        if (pair.calls >= CALLS) return false;
        pair.calls++;
        String got = answerOf(onRoom);
        String due = answerOf(onModel);
        pair.told.append(name).append(" -> ").append(got).append('\n');
        check.same(name, got, due);
        if (!got.equals(due)) {
            System.out.println(pair.told);
            check.end();
        }
        return true;
    }

    public static void main(String[] args) {
        for (int run = 0; run < RUNS; run++) {
            Random random = new Random(run);
            Pair pair = new Pair();
            if (run % 4 != 0) setUp(pair, random);
            while (pair.calls < CALLS) turn(pair, random, run % 4);
        }
        System.out.println("thirds " + thirds + ", voids " + voids + ", releases " + releases + ", appeals " + appeals
            + ", settled appeals " + settled + ", changes " + changes + ", rereads " + rereads + ", late pupils " + lates);
        check.same("the runs meet what is rare", thirds > 50 && voids > 50 && releases > 50 && appeals > 50 && settled > 20
            && changes > 20 && rereads > 50 && lates > 20, true);
        check.end();
    }

    private static final String[] TEXTS = {
        "a", "a+b", "3a+b", "a+2b+c", "2(a|2b)+c<5", "a+b+c+d", "9(a|b)+9c", "(a+b|2c)+d<07", "9(9a+b)<98", "b", "c+a",
        "((((2a))))", "(((((a)))))", "a+", "0a", "a<", "a<100", "(a|b", "a|b", "4h+3g+a", "a<0"
    };

    private static void scheme(Pair pair, int question, String text) {
        for (char sign : text.toCharArray()) type(pair, sign);
        step(pair, "scheme(" + question + ")", () -> pair.room.scheme(question), () -> pair.model.scheme(question));
    }

    private static void type(Pair pair, int sign) {
        step(pair, "type(" + sign + ")", () -> pair.room.type(sign), () -> pair.model.type(sign));
    }

    private static void setUp(Pair pair, Random random) {
        String text = TEXTS[1 + random.nextInt(10)];
        for (int q = 0; q < 4; q++) scheme(pair, q, random.nextInt(3) == 0 ? TEXTS[random.nextInt(11)] : text);
        int readers = 2 + random.nextInt(5);
        for (int i = 0; i < readers; i++) {
            reader(pair, random.nextInt(3) == 0 ? random.nextInt(5) : -1, random.nextInt(4) == 0 ? 1 + random.nextInt(15) : 15, random.nextInt(2) == 0);
        }
        int pupils = 1 + random.nextInt(6);
        for (int i = 0; i < pupils; i++) pupil(pair, random.nextInt(5), 15 & (random.nextInt(16) | random.nextInt(16)), random.nextInt(3) == 0);
        if (random.nextInt(2) == 0) twice(pair, random.nextInt(4), true);
        for (int q = random.nextInt(6); q < 4; q++) seed(pair, q, random.nextInt(8));
    }

    private static void pupil(Pair pair, int school, int lacks, boolean urgent) {
        step(pair, "pupil(" + school + ", " + lacks + ", " + urgent + ")",
            () -> pair.room.pupil(school, lacks, urgent), () -> pair.model.pupil(school, lacks, urgent));
    }

    private static void reader(Pair pair, int school, int questions, boolean senior) {
        step(pair, "reader(" + school + ", " + questions + ", " + senior + ")",
            () -> pair.room.reader(school, questions, senior), () -> pair.model.reader(school, questions, senior));
    }

    private static void twice(Pair pair, int q, boolean is) {
        step(pair, "twice(" + q + ", " + is + ")", () -> pair.room.twice(q, is) ? 1 : 0, () -> pair.model.twice(q, is) ? 1 : 0);
    }

    private static void seed(Pair pair, int q, int points) {
        step(pair, "seed(" + q + ", " + points + ")", () -> pair.room.seed(q, points), () -> pair.model.seed(q, points));
    }

    /** Mostly what there is, sometimes one too far or far off. */
    private static int about(Random random, int from, int to) {
        int kind = random.nextInt(40);
        if (kind == 0) return from - 1;
        if (kind == 1) return to + 1;
        if (kind == 2) return random.nextBoolean() ? Integer.MAX_VALUE : Integer.MIN_VALUE;
        return from + random.nextInt(to - from + 1);
    }

    private static int countOfPupils(Pair pair) {
        int n = 0;
        while (!answerOf(at(pair, n)).startsWith("throws.")) n++;
        return n;
    }

    private static Call at(Pair pair, int pupil) {
        return () -> pair.model.grade(pupil, true);
    }

    private static void turn(Pair pair, Random random, int kind) {
        int pupils = countOfPupils(pair);
        int p = about(random, 0, Math.max(0, pupils - 1));
        int q = about(random, 0, 3);
        int r = about(random, 0, 5);
        int what = random.nextInt(100);
        if (what < 40) work(pair, random, r);
        else if (what < 46) step(pair, "goOn(" + r + ")", () -> pair.room.goOn(r), () -> pair.model.goOn(r));
        else if (what < 52) ask(pair, random, p, q, r);
        else if (what < 56) answers(pair, p, q);
        else if (what < 62) appeal(pair, p, q);
        else if (what < 66) release(pair);
        else if (what < 71) change(pair, random, p, q);
        else if (what < 74 && kind == 0) open(pair, random, q);
        else if (what < 84) people(pair, random, kind);
        else if (what < 88) lines(pair, random);
        else if (what < 92) shares(pair, random);
        else ask(pair, random, p, q, r);
    }

    private static void work(Pair pair, Random random, int r) {
        int reader = random.nextInt(3) == 0 ? r : Math.floorMod(r, 4);
        if (random.nextInt(8) != 0) step(pair, "next(" + reader + ")", () -> pair.room.next(reader), () -> pair.model.next(reader));
        if (random.nextInt(8) == 0) return;
        int points = random.nextInt(3) == 0 ? about(random, 0, 255) : random.nextInt(3) == 0 ? about(random, 0, 7) : 7;
        int before = countOf(pair, reader, 3);
        step(pair, "read(" + reader + ", " + points + ")", () -> pair.room.read(reader, points), () -> pair.model.read(reader, points));
        if (countOf(pair, reader, 3) > before) voids++;
    }

    private static int countOf(Pair pair, int reader, int what) {
        try {
            return pair.model.ofReader(reader, what);
        } catch (IndexOutOfBoundsException e) {
            return 0;
        }
    }

    private static void answers(Pair pair, int p, int q) {
        for (int what = 0; what < 4; what++) answer(pair, p, q, what);
        mark(pair, p, q);
        try {
            if (pair.model.answer(p, q, 0) > 2) thirds++;
            if (pair.model.answer(p, q, 1) > pair.model.answer(p, q, 0)) rereads++;
            if (pair.model.answer(p, q, 3) == 1 && pair.model.answer(p, q, 2) == 0) settled++;
        } catch (IndexOutOfBoundsException e) {
            return;
        }
    }

    private static void answer(Pair pair, int p, int q, int what) {
        step(pair, "answer(" + p + ", " + q + ", " + what + ")", () -> pair.room.answer(p, q, what), () -> pair.model.answer(p, q, what));
    }

    private static void mark(Pair pair, int p, int q) {
        step(pair, "mark(" + p + ", " + q + ")", () -> pair.room.mark(p, q), () -> pair.model.mark(p, q));
        step(pair, "markAnew(" + p + ", " + q + ")", () -> pair.room.markAnew(p, q), () -> pair.model.markAnew(p, q));
    }

    private static void appeal(Pair pair, int p, int q) {
        String got = answerOf(() -> pair.model.answer(p, q, 3));
        step(pair, "appeal(" + p + ", " + q + ")", () -> pair.room.appeal(p, q), () -> pair.model.appeal(p, q));
        if (!got.equals(answerOf(() -> pair.model.answer(p, q, 3)))) appeals++;
    }

    private static void release(Pair pair) {
        String got = answerOf(() -> pair.model.grade(0, true));
        step(pair, "release()", () -> pair.room.release(), () -> pair.model.release());
        if (!got.equals(answerOf(() -> pair.model.grade(0, true)))) releases++;
        step(pair, "changed()", () -> pair.room.changed(), () -> pair.model.changed());
        if (pair.model.changed() > 0) changes++;
    }

    private static void change(Pair pair, Random random, int p, int q) {
        int much = about(random, 0, 9);
        switch (random.nextInt(4)) {
            case 0 -> twice(pair, q, random.nextInt(3) != 0);
            case 1 -> step(pair, "tolerance(" + much + ")", () -> pair.room.tolerance(much), () -> pair.model.tolerance(much));
            case 2 -> step(pair, "gift(" + p + ", " + much + ")", () -> pair.room.gift(p, much), () -> pair.model.gift(p, much));
            default -> {
                if (random.nextInt(3) == 0) scheme(pair, q, TEXTS[random.nextInt(TEXTS.length)]);
            }
        }
    }

    /** Signs at random, most of them such as a scheme has. */
    private static void open(Pair pair, Random random, int q) {
        String signs = "abch((||))++++<1290 ";
        for (int n = random.nextInt(12); n > 0; n--) {
            int sign = random.nextInt(30) == 0 ? about(random, 32, 126) : signs.charAt(random.nextInt(signs.length()));
            type(pair, sign);
        }
        if (random.nextInt(4) != 0) step(pair, "scheme(" + q + ")", () -> pair.room.scheme(q), () -> pair.model.scheme(q));
    }

    private static void people(Pair pair, Random random, int kind) {
        if (kind != 0 && random.nextInt(8) != 0) return;
        int before = countOfPupils(pair);
        int school = about(random, 0, 4);
        int some = about(random, 0, 15);
        boolean is = random.nextBoolean();
        switch (random.nextInt(3)) {
            case 0 -> pupil(pair, school, some, is);
            case 1 -> reader(pair, random.nextBoolean() ? -1 : school, some, is);
            default -> seed(pair, Math.floorMod(some, 5), random.nextInt(10) == 0 ? about(random, 0, 255) : 7);
        }
        if (countOfPupils(pair) > before && before > 0 && pair.model.grade(0, true) != -1) lates++;
    }

    private static void lines(Pair pair, Random random) {
        int third = about(random, 0, 6);
        int second = third + about(random, 0, 6);
        int first = random.nextInt(20) == 0 ? about(random, 998, 999) : second + about(random, 0, 6);
        step(pair, "lines(" + first + ", " + second + ", " + third + ")",
            () -> pair.room.lines(first, second, third), () -> pair.model.lines(first, second, third));
    }

    private static void shares(Pair pair, Random random) {
        int share = about(random, 0, 100);
        step(pair, "lineOf(" + share + ")", () -> pair.room.lineOf(share), () -> pair.model.lineOf(share));
        step(pair, "lineAnew(" + share + ")", () -> pair.room.lineAnew(share), () -> pair.model.lineAnew(share));
    }

    private static void ask(Pair pair, Random random, int p, int q, int r) {
        int some = about(random, 0, 5);
        int points = about(random, 0, 255);
        int place = about(random, 0, 20);
        switch (random.nextInt(10)) {
            case 0 -> step(pair, "total(" + p + ")", () -> pair.room.total(p), () -> pair.model.total(p));
            case 1 -> step(pair, "grade(" + p + ", true)", () -> pair.room.grade(p, true), () -> pair.model.grade(p, true));
            case 2 -> step(pair, "grade(" + p + ", false)", () -> pair.room.grade(p, false), () -> pair.model.grade(p, false));
            case 3 -> step(pair, "versions(" + q + ")", () -> pair.room.versions(q), () -> pair.model.versions(q));
            case 4 -> step(pair, "markOf(" + q + ", " + some + ", " + points + ")",
                () -> pair.room.markOf(q, some, points), () -> pair.model.markOf(q, some, points));
            case 5 -> step(pair, "written(" + q + ", " + some + ", " + place + ")",
                () -> pair.room.written(q, some, place), () -> pair.model.written(q, some, place));
            case 6 -> step(pair, "ofReader(" + r + ", " + some + ")", () -> pair.room.ofReader(r, some), () -> pair.model.ofReader(r, some));
            case 7 -> step(pair, "wanted()", () -> pair.room.wanted(), () -> pair.model.wanted());
            case 8 -> mark(pair, p, q);
            default -> answer(pair, p, q, some);
        }
    }
}
