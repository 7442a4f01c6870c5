/** Prints every answer that is not the one that is due, and ends with exit code 1 if there was one. */
final class Check {
    static final Class<?> ILLEGAL = IllegalArgumentException.class;
    static final Class<?> STATE = IllegalStateException.class;
    static final Class<?> BOUNDS = IndexOutOfBoundsException.class;

    private final String name;
    private int looked = 0;
    private int wrong = 0;

    Check(String name) {
        this.name = name;
    }

    void same(String what, long got, long want) {
        looked++;
        if (got != want) fail(what + " answered " + got + ", due is " + want);
    }

    void same(String what, boolean got, boolean want) {
        looked++;
        if (got != want) fail(what + " answered " + got + ", due is " + want);
    }

    void same(String what, String got, String want) {
        looked++;
        if (!got.equals(want)) fail(what + " answered\n  " + got + ", due is\n  " + want);
    }

    /** The class must be the very one, so that no exception of the machine passes for one of the document. */
    void fails(String what, Class<?> due, Runnable call) {
        looked++;
        Class<?> got = thrownBy(call);
        if (got != due) fail(what + " threw " + got + ", due is " + due);
    }

    private static Class<?> thrownBy(Runnable call) {
        try {
            call.run();
            return null;
        } catch (RuntimeException e) {
            return e.getClass();
        }
    }

    void fail(String what) {
        wrong++;
        System.out.println(name + ": " + what);
    }

    void end() {
        System.out.println(name + ": " + looked + " looked at, " + wrong + " wrong");
        if (wrong > 0 || looked == 0) System.exit(1);
    }

    // ---- what the tests do to rooms again and again

    static int type(ScriptRoom room, String text) {
        int length = 0;
        for (char sign : text.toCharArray()) length = room.type(sign);
        return length;
    }

    static int scheme(ScriptRoom room, int question, String text) {
        type(room, text);
        return room.scheme(question);
    }

    /** A room with the same scheme for all questions. */
    static ScriptRoom roomWith(String text) {
        ScriptRoom room = new ScriptRoom();
        for (int question = 0; question < 4; question++) scheme(room, question, text);
        return room;
    }

    static String written(ScriptRoom room, int question, int version) {
        StringBuilder all = new StringBuilder();
        for (int place = 0; room.written(question, version, place) != 0; place++) {
            all.append(room.written(question, version, place));
        }
        return all.toString();
    }

    /** Takes what is next and reads it; returns what it was. */
    static int work(ScriptRoom room, int reader, int points) {
        int what = room.next(reader);
        if (what != ScriptRoom.NONE) room.read(reader, points);
        return what;
    }
}
