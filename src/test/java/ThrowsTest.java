import java.util.ArrayList;
import java.util.List;
import java.util.Random;

/**
 * A call that throws changes nothing: of two rooms with the same calls one gets calls ahead of each that throw,
 * and both must answer alike to the end.
 */
public final class ThrowsTest {
    private static final Check check = new Check("ThrowsTest");
    /** The calls of a room in all, those that throw among them, stay within the document's 512. */
    private static final int TURNS = 90;
    private static int thrown = 0;

    private interface Call {
        long on(ScriptRoom room);
    }

    public static void main(String[] args) {
        for (int run = 0; run < 400; run++) twins(new Random(run));
        check.same("calls did throw", thrown > 10000, true);
        check.end();
    }

    private static void twins(Random random) {
        ScriptRoom plain = room();
        ScriptRoom plagued = room();
        for (int turn = 0; turn < TURNS; turn++) {
            plague(plagued, random);
            Call call = turn(random);
            String due = answer(plain, call);
            String got = answer(plagued, call);
            check.same("turn " + turn, got, due);
        }
        for (Call call : all()) check.same("at the end", answer(plagued, call), answer(plain, call));
    }

    private static ScriptRoom room() {
        ScriptRoom x = Check.roomWith("a+2b");
        x.pupil(0, 12, true);
        x.pupil(1, 14, false);
        x.pupil(2, 13, false);
        x.reader(-1, 15, false);
        x.reader(-1, 15, true);
        x.reader(2, 3, true);
        x.seed(0, 3);
        x.seed(1, 3);
        x.seed(0, 0);
        return x;
    }

    private static String answer(ScriptRoom room, Call call) {
        try {
            return "" + call.on(room);
        } catch (RuntimeException e) {
            return e.getClass().getName();
        }
    }

    /** One of the calls that throw in every state of this room, and some that throw in the state that it has. */
    private static void plague(ScriptRoom x, Random random) {
        Call[] wrong = {
            r -> r.pupil(5, 0, true), r -> r.pupil(0, 16, true), r -> r.gift(0, 10), r -> r.gift(99, 1), r -> r.type(31),
            r -> r.type(127), r -> r.scheme(4), r -> r.scheme(-1), r -> r.twice(4, true) ? 1 : 0, r -> r.tolerance(10),
            r -> r.tolerance(-1), r -> r.reader(5, 1, true), r -> r.reader(0, 16, true), r -> r.seed(0, 256), r -> r.seed(4, 1),
            r -> r.next(6), r -> r.next(-1), r -> r.read(0, 256), r -> r.read(1, -1), r -> r.read(2, 256), r -> r.read(9, 0),
            r -> r.goOn(9), r -> r.lines(1000, 5, 5), r -> r.lines(5, 6, 1), r -> r.lines(5, 3, 4), r -> r.appeal(0, 4),
            r -> r.appeal(99, 0), r -> r.appeal(0, 3), r -> r.appeal(1, 1), r -> r.markOf(0, 9, 0), r -> r.written(0, 0, -1),
            r -> r.answer(0, 0, 4), r -> r.ofReader(0, 6), r -> r.lineOf(101), r -> r.lineAnew(-1)
        };
        String got = answer(x, wrong[random.nextInt(wrong.length)]);
        check.same("throws", got.startsWith("java.lang."), true);
        thrown++;
        for (int reader = 0; reader < 3; reader++) plagueReader(x, reader, random);
    }

    private static void plagueReader(ScriptRoom x, int reader, Random random) {
        if (random.nextInt(6) != 0) return;
        boolean isStopped = x.ofReader(reader, 0) == 1;
        boolean isIdle = x.ofReader(reader, 1) == ScriptRoom.NONE;
        if (isStopped) check.fails("next", Check.STATE, () -> x.next(reader));
        else check.fails("goOn", Check.STATE, () -> x.goOn(reader));
        if (isIdle) check.fails("read", Check.STATE, () -> x.read(reader, 3));
        thrown++;
    }

    private static Call turn(Random random) {
        int r = random.nextInt(3);
        int q = random.nextInt(4);
        int p = random.nextInt(3);
        int points = random.nextInt(4) == 0 ? random.nextInt(4) : 3;
        switch (random.nextInt(16)) {
            case 0: case 1: case 2: return x -> x.next(r);
            case 3: case 4: case 5: return x -> x.read(r, points);
            case 6: return x -> x.goOn(r);
            case 7: return x -> x.twice(q, points < 3) ? 1 : 0;
            case 8: return x -> x.tolerance(points);
            case 9: return x -> x.gift(p, points);
            case 10: return x -> x.lines(5 + points, 3 + q, 3);
            case 11: return x -> x.release();
            case 12: return x -> x.appeal(p, q);
            case 13: return x -> x.type("a+2b".charAt(q));
            case 14: return x -> x.scheme(q);
            default: return x -> x.wanted();
        }
    }

    private static List<Call> all() {
        List<Call> all = new ArrayList<>();
        for (int i = 0; i < 3; i++) {
            int p = i;
            for (int what = 0; what < 6; what++) {
                int w = what;
                all.add(x -> x.ofReader(p, w));
            }
            for (int question = 0; question < 4; question++) {
                int q = question;
                for (int what = 0; what < 4; what++) {
                    int w = what;
                    all.add(x -> x.answer(p, q, w));
                }
                all.add(x -> x.mark(p, q));
                all.add(x -> x.markAnew(p, q));
            }
            all.add(x -> x.grade(p, true));
            all.add(x -> x.grade(p, false));
            all.add(x -> x.total(p));
            all.add(x -> x.gift(p, 0));
            all.add(x -> x.next(p));
        }
        for (int question = 0; question < 4; question++) {
            int q = question;
            all.add(x -> x.versions(q));
            all.add(x -> x.twice(q, false) ? 1 : 0);
        }
        all.add(x -> x.changed());
        all.add(x -> x.lineOf(40));
        all.add(x -> x.tolerance(0));
        all.add(x -> x.type('a'));
        all.add(x -> x.pupil(0, 15, false));
        all.add(x -> x.reader(0, 15, false));
        all.add(x -> x.seed(0, 0));
        return all;
    }
}
