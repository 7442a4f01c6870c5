/**
 * The log's end. The document's 512 calls do not come that far, so that its answer there is free;
 * this looks that the room keeps promise 11 all the same, and throws what it names and nothing else.
 */
public final class LimitTest {
    private static final Check check = new Check("LimitTest");
    private static final String[] VERSIONS = {"a", "b", "c", "d", "e"};

    public static void main(String[] args) {
        ScriptRoom x = logged(300);
        check.same("11: 300 were read", x.ofReader(0, 2) + x.ofReader(2, 2), 300);
        int last = x.ofReader(0, 1);
        check.same("11: one more is at hand", last >= 0 && last < 1000, true);
        check.fails("11: there are 300", Check.STATE, () -> x.read(0, 0));
        check.fails("11: wrong points come first", Check.ILLEGAL, () -> x.read(0, 256));
        check.same("11: it stays at hand", x.ofReader(0, 1), last);
        check.same("11: 300 stay", x.ofReader(0, 2) + x.ofReader(2, 2), 300);
        check.same("20: found anew", x.markAnew(15, 3), x.mark(15, 3));
        seedsAreReadStill();
        check.end();
    }

    /** So many readings, by the readers 0 and 2; then 0 and 1 have answers at hand, and 2 a seed. */
    static ScriptRoom logged(int readings) {
        ScriptRoom x = Check.roomWith("a");
        for (int i = 0; i < 16; i++) x.pupil(0, 0, false);
        for (int i = 0; i < 3; i++) x.reader(-1, 15, true);
        for (int i = 0; i < 3; i++) Check.work(x, 2, 255);
        int read = 3;
        for (int version = 0; read < readings; version++) {
            for (int q = 0; q < 4 && version > 0; q++) Check.scheme(x, q, VERSIONS[version]);
            while (read < readings && Check.work(x, 0, 255) != ScriptRoom.NONE) read++;
        }
        x.next(0);
        x.next(1);
        x.seed(0, 255);
        x.next(2);
        return x;
    }

    private static void seedsAreReadStill() {
        ScriptRoom x = Check.roomWith("a");
        for (int i = 0; i < 16; i++) x.pupil(0, 0, false);
        x.reader(-1, 15, true);
        x.reader(-1, 15, true);
        for (int version = 0; version < 5; version++) {
            for (int q = 0; q < 4 && version > 0; q++) Check.scheme(x, q, VERSIONS[version]);
            int read = 0;
            while (x.ofReader(0, 2) < 300 && Check.work(x, 0, 255) != ScriptRoom.NONE) read++;
            check.same("11: some were read", read > 0, true);
        }
        check.same("11: 300 in all", x.ofReader(0, 2), 300);
        x.seed(0, 255);
        x.tolerance(0);
        check.same("10: a seed is due", x.next(0), 1000);
        check.same("11: a seed is no reading", x.read(0, 0), 0);
        check.same("11: stopped, all void", x.goOn(0), 300);
    }
}
