import java.util.ArrayList;
import java.util.List;

/** The edges of what the document says of all calls: which exception, nothing changed, 512 calls, asking. */
final class EdgesOfFace {
    private final Edges edges;

    EdgesOfFace(Edges edges) {
        this.edges = edges;
    }

    void all() {
        none();
        theLastOf512();
        changesNothing();
        theOneNamedFirst();
        noSuchOne();
        askingChangesNothing();
    }

    private void none() {
        edges.words("Terms", "NONE = -1: There is none.");
        edges.same("the constant", ScriptRoom.NONE, -1);
        ScriptRoom x = new ScriptRoom();
        x.reader(-1, 15, false);
        x.pupil(0, 0, false);
        edges.same("next", x.next(0), ScriptRoom.NONE);
        edges.same("at hand", x.ofReader(0, 1), ScriptRoom.NONE);
        edges.same("mark", x.mark(0, 0), ScriptRoom.NONE);
        edges.same("total", x.total(0), ScriptRoom.NONE);
        edges.same("grade", x.grade(0, true), ScriptRoom.NONE);
    }

    private void theLastOf512() {
        edges.words("What it is", "An object is used for at most 512 calls after it has been made");
        ScriptRoom x = Edges.room("a+2b", 16, "jj");
        int calls = 5 + 16 + 2;
        for (int i = 0; i < 16; i++, calls += 2) edges.same("next", Check.work(x, 0, i % 4), 10 * i);
        for (; calls < 512; calls++) edges.same("call " + (calls + 1), x.mark(calls % 16, 0), calls % 4);
    }

    /** One call for every exception of every throws clause, in a room where it throws. */
    private void changesNothing() {
        edges.words("Terms", "A call that throws an exception changes nothing.");
        for (Edges.Call call : illegal()) edges.refuses("a full room", Check.ILLEGAL, Edges::full, call);
        for (Edges.Call call : illegal()) edges.refuses("a busy room", Check.ILLEGAL, Edges::busy, call);
        for (Edges.Call call : illegalOfPupils()) edges.refuses("a released room", Check.ILLEGAL, Edges::released, call);
        for (Edges.Call call : state()) edges.refuses("a full room", Check.STATE, Edges::full, call);
        edges.refuses("next of who is stopped", Check.STATE, Edges::busy, x -> x.next(2));
        edges.refuses("lines", Check.STATE, Edges::released, x -> x.lines(1, 1, 1));
        edges.refuses("release", Check.STATE, Edges::released, ScriptRoom::release);
    }

    private static List<Edges.Call> illegal() {
        List<Edges.Call> all = new ArrayList<>(illegalOfPupils());
        all.add(x -> x.seed(0, 256));
        all.add(x -> x.read(0, 256));
        all.add(x -> x.read(4, -1));
        all.add(x -> x.markOf(0, 1, 256));
        all.add(x -> x.ofReader(4, 6));
        return all;
    }

    private static List<Edges.Call> illegalOfPupils() {
        return List.of(x -> x.pupil(5, 0, true), x -> x.pupil(0, 16, true), x -> x.gift(0, 10), x -> x.type(31), x -> x.tolerance(10),
            x -> x.reader(5, 1, true), x -> x.reader(0, 0, true), x -> x.lines(5, 6, 0), x -> x.answer(0, 0, 4), x -> x.lineOf(101),
            x -> x.lineAnew(-1));
    }

    private static List<Edges.Call> state() {
        return List.of(x -> x.pupil(0, 0, true), x -> x.type('a'), x -> x.scheme(0), x -> x.reader(0, 1, true), x -> x.seed(0, 0),
            x -> x.read(0, 0), x -> x.goOn(0), ScriptRoom::release, x -> x.appeal(0, 0));
    }

    /** A room in which all that a throws clause names applies. */
    private void theOneNamedFirst() {
        edges.words("Terms", "If several exceptions apply, the one that is named first in the throws clause is thrown.");
        edges.refuses("pupil", Check.ILLEGAL, Edges::full, x -> x.pupil(-1, 16, true));
        edges.refuses("gift", Check.BOUNDS, Edges::full, x -> x.gift(16, 10));
        edges.refuses("type", Check.ILLEGAL, Edges::full, x -> x.type(127));
        edges.refuses("scheme", Check.BOUNDS, Edges::full, x -> x.scheme(4));
        edges.refuses("reader", Check.ILLEGAL, Edges::full, x -> x.reader(5, 0, true));
        edges.refuses("seed: the first of three", Check.BOUNDS, Edges::full, x -> x.seed(4, 256));
        edges.refuses("seed: the first and the third", Check.BOUNDS, Edges::full, x -> x.seed(4, 0));
        edges.refuses("seed: the second of two", Check.ILLEGAL, Edges::full, x -> x.seed(0, 256));
        edges.refuses("next", Check.BOUNDS, Edges::full, x -> x.next(6));
        edges.refuses("read: the first of three", Check.BOUNDS, Edges::full, x -> x.read(6, 256));
        edges.refuses("read: the first and the third", Check.BOUNDS, Edges::full, x -> x.read(6, 0));
        edges.refuses("read: the second of two", Check.ILLEGAL, Edges::full, x -> x.read(0, 256));
        edges.refuses("goOn", Check.BOUNDS, Edges::full, x -> x.goOn(-1));
        edges.refuses("lines", Check.ILLEGAL, Edges::released, x -> x.lines(0, 0, 1));
        edges.refuses("appeal: pupil", Check.BOUNDS, Edges::full, x -> x.appeal(16, 0));
        edges.refuses("appeal: question, where there is no answer", Check.BOUNDS, Edges::released, x -> x.appeal(0, 4));
        edges.refuses("markOf: question", Check.BOUNDS, Edges::full, x -> x.markOf(4, 0, 256));
        edges.refuses("markOf: version", Check.BOUNDS, Edges::full, x -> x.markOf(0, 6, 256));
        edges.refuses("answer", Check.BOUNDS, Edges::full, x -> x.answer(16, 0, 4));
        edges.refuses("ofReader", Check.BOUNDS, Edges::full, x -> x.ofReader(6, 6));
    }

    private void noSuchOne() {
        edges.words("Terms", "A method that takes a pupil, a question, a reader or a version throws IndexOutOfBoundsException if there is no such one.");
        for (int wrong : new int[] {Integer.MIN_VALUE, -1, 0, 1, 3, 4, 5, 6, 15, 16, 1 << 16, Integer.MAX_VALUE}) {
            for (Edges.Call call : ofPupils(wrong)) edges.refuses("a pupil where there is none", Check.BOUNDS, Edges::room, call);
            for (Edges.Call call : ofReaders(wrong)) edges.refuses("a reader where there is none", Check.BOUNDS, Edges::room, call);
            for (Edges.Call call : ofVersions(wrong)) edges.refuses("a version where there is none", Check.BOUNDS, Edges::room, call);
            boolean isQuestion = wrong >= 0 && wrong < 4;
            for (Edges.Call call : ofQuestions(wrong)) {
                if (!isQuestion) edges.refuses("question " + wrong, Check.BOUNDS, Edges::busy, call);
            }
        }
        for (Edges.Call call : ofPupils(15)) edges.allows("pupil 15", EdgesOfFace::allThere, call);
        for (Edges.Call call : ofReaders(5)) edges.allows("reader 5", EdgesOfFace::allThere, call);
        for (Edges.Call call : ofQuestions(3)) edges.allows("question 3", EdgesOfFace::allThere, call);
        for (Edges.Call call : ofVersions(4)) edges.allows("version 4", EdgesOfFace::allThere, call);
    }

    /** No call of those below throws here for the last one of each. */
    private static ScriptRoom allThere() {
        ScriptRoom x = new ScriptRoom();
        for (int i = 0; i < 23; i++) Check.scheme(x, i % 4, "a");
        for (int i = 0; i < 16; i++) x.pupil(0, i < 15 ? 15 : 0, false);
        for (int i = 0; i < 6; i++) x.reader(-1, 15, true);
        for (int i = 0; i < 4; i++) Check.work(x, 0, 1);
        x.release();
        x.appeal(15, 0);
        x.next(5);
        Check.type(x, "a");
        return x;
    }

    private static List<Edges.Call> ofPupils(int pupil) {
        return List.of(x -> x.gift(pupil, 0), x -> x.mark(pupil, 1), x -> x.markAnew(pupil, 2), x -> x.answer(pupil, 3, 3),
            x -> x.total(pupil), x -> x.grade(pupil, false), x -> x.grade(pupil, true), x -> x.appeal(pupil, 3));
    }

    private static List<Edges.Call> ofReaders(int reader) {
        return List.of(x -> x.next(reader), x -> x.read(reader, 0), x -> x.ofReader(reader, 0), x -> x.ofReader(reader, 5));
    }

    private static List<Edges.Call> ofVersions(int version) {
        return List.of(x -> x.markOf(3, version, 0), x -> x.written(3, version, 0), x -> x.written(3, version, Integer.MAX_VALUE));
    }

    private static List<Edges.Call> ofQuestions(int question) {
        return List.of(x -> x.scheme(question), x -> x.twice(question, true), x -> x.seed(question, 0), x -> x.versions(question),
            x -> x.markOf(question, 0, 0), x -> x.written(question, 0, 0));
    }

    private void askingChangesNothing() {
        edges.words("Terms", "---- what there is; nothing from here on changes anything.");
        Edges.Made[] rooms = {Edges::room, Edges::busy, Edges::full, Edges::released};
        for (Edges.Made made : rooms) {
            ScriptRoom asked = made.room();
            ask(asked);
            edges.same("asked", State.of(asked), State.of(made.room()));
        }
    }

    /** Each call of the face that only tells, of what there is and of what there is not. */
    private static void ask(ScriptRoom x) {
        for (int i = 0; i < 5; i++) {
            int at = i;
            List<Edges.Call> all = List.of(r -> r.versions(at), r -> r.markOf(at, 0, 3), r -> r.written(at, 0, 1), r -> r.mark(at, 0),
                r -> r.markAnew(0, at), r -> r.answer(at, 0, 2), r -> r.total(at), r -> r.grade(at, false), r -> r.grade(at, true),
                ScriptRoom::changed, r -> r.lineOf(25 * at), r -> r.lineAnew(25 * at), r -> r.ofReader(at, 1), ScriptRoom::wanted);
            for (Edges.Call call : all) quietly(x, call);
        }
    }

    private static void quietly(ScriptRoom x, Edges.Call call) {
        try {
            call.on(x);
        } catch (IndexOutOfBoundsException e) {
            return;
        }
    }
}
