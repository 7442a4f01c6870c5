/** All that a room answers, and what it does next: of two rooms in the same state both are told alike. */
final class State {
    private interface Call {
        Object on();
    }

    private final ScriptRoom room;
    private final StringBuilder told = new StringBuilder();

    private State(ScriptRoom room) {
        this.room = room;
    }

    /** Takes some 230 calls, and uses the room up: what is not told by asking is told by doing. */
    static String of(ScriptRoom room) {
        State state = new State(room);
        state.ask();
        state.act();
        return state.told.toString();
    }

    private void tell(String name, Call call) {
        String answer;
        try {
            answer = "" + call.on();
        } catch (RuntimeException e) {
            answer = e.getClass().getSimpleName();
        }
        told.append(name).append(' ').append(answer).append('\n');
    }

    private void ask() {
        tell("wanted", room::wanted);
        tell("changed", room::changed);
        for (int share = 0; share <= 100; share += 50) lines(share);
        for (int question = 0; question < 4; question++) versions(question);
        for (int pupil = 0; pupil < 16; pupil++) pupil(pupil);
        for (int answer = 0; answer < 12; answer++) answer(answer / 4, answer % 4);
        for (int reader = 0; reader < 6; reader++) {
            for (int what = 0; what < 6; what++) ofReader(reader, what);
        }
    }

    private void lines(int share) {
        tell("lineOf", () -> room.lineOf(share));
        tell("lineAnew", () -> room.lineAnew(share));
    }

    private void versions(int question) {
        tell("versions", () -> room.versions(question));
        tell("markOf", () -> room.markOf(question, room.versions(question) - 1, 255));
        tell("written", () -> (int) room.written(question, room.versions(question) - 1, 1));
    }

    private void pupil(int pupil) {
        tell("total", () -> room.total(pupil));
        tell("grade now", () -> room.grade(pupil, false));
        tell("grade released", () -> room.grade(pupil, true));
    }

    private void answer(int pupil, int question) {
        tell("mark", () -> room.mark(pupil, question));
        tell("markAnew", () -> room.markAnew(pupil, question));
        for (int what = 0; what < 4; what++) {
            int which = what;
            tell("answer", () -> room.answer(pupil, question, which));
        }
    }

    private void ofReader(int reader, int what) {
        tell("ofReader", () -> room.ofReader(reader, what));
    }

    private void act() {
        for (int reader = 0; reader < 6; reader++) work(reader);
        for (int pupil = 0; pupil < 16; pupil++) gift(pupil);
        tell("tolerance", () -> room.tolerance(0));
        for (int question = 0; question < 4; question++) twice(question);
        tell("appeal", () -> room.appeal(0, 0));
        tell("lines", () -> room.lines(3, 2, 1));
        tell("release", room::release);
        tell("type", () -> room.type('a'));
        tell("scheme", () -> room.scheme(3));
        versions(3);
        tell("pupil", () -> room.pupil(0, 15, false));
        tell("reader", () -> room.reader(0, 15, false));
        tell("seed", () -> room.seed(0, 0));
    }

    private void work(int reader) {
        tell("next", () -> room.next(reader));
        tell("read", () -> room.read(reader, 0));
        tell("goOn", () -> room.goOn(reader));
        tell("next", () -> room.next(reader));
    }

    private void gift(int pupil) {
        tell("gift", () -> room.gift(pupil, 0));
    }

    private void twice(int question) {
        tell("twice", () -> room.twice(question, false));
    }
}
