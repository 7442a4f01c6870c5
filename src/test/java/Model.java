import java.util.ArrayList;
import java.util.Comparator;
import java.util.List;
import java.util.stream.Collectors;
import java.util.stream.IntStream;

/** The document told once more, as plainly as can be and without any regard to cost: nothing is kept but what was done. */
final class Model {
    private static final class Scheme {
        final String full;
        final Sum sum;
        final int most;
        int letters;

        Scheme(String full, Sum sum, int most, int letters) {
            this.full = full;
            this.sum = sum;
            this.most = most;
            this.letters = letters;
        }

        int mark(int points) {
            return Math.min(99, Math.min(most, sum.worth(points)));
        }
    }

    private record Sum(List<Part> parts) {
        int worth(int points) {
            return parts.stream().mapToInt(p -> p.worth(points)).sum();
        }

        String full() {
            return parts.stream().map(Part::full).collect(Collectors.joining("+"));
        }
    }

    private record Part(int digit, char letter, List<Sum> sums) {
        int worth(int points) {
            if (sums == null) return digit * (points >> (letter - 'a') & 1);
            return digit * sums.stream().mapToInt(s -> s.worth(points)).max().orElse(0);
        }

        String full() {
            if (sums == null) return "" + digit + letter;
            return digit + "(" + sums.stream().map(Sum::full).collect(Collectors.joining("|")) + ")";
        }
    }

    private static final class Fault extends Exception {
        final int place;

        Fault(int place) {
            this.place = place;
        }
    }

    /** Descends; a sign that none of the calls takes is the fault. */
    private static final class Descent {
        final String text;
        int at = 0;
        int letters = 0;

        Descent(String text) {
            this.text = text;
        }

        char sign() {
            return at < text.length() ? text.charAt(at) : 0;
        }

        Scheme whole() throws Fault {
            Sum sum = sum(0);
            int most = 99;
            String tail = "";
            if (sign() == '<') {
                at++;
                if (!Character.isDigit(sign())) throw new Fault(at);
                most = sign() - '0';
                at++;
                if (Character.isDigit(sign())) {
                    most = 10 * most + sign() - '0';
                    at++;
                }
                tail = "<" + most;
            }
            if (at < text.length()) throw new Fault(at);
            return new Scheme(sum.full() + tail, sum, most, letters);
        }

        Sum sum(int open) throws Fault {
            List<Part> parts = new ArrayList<>();
            parts.add(part(open));
            while (sign() == '+') {
                at++;
                parts.add(part(open));
            }
            return new Sum(parts);
        }

        Part part(int open) throws Fault {
            int digit = 1;
            if (sign() >= '1' && sign() <= '9') {
                digit = sign() - '0';
                at++;
            }
            char sign = sign();
            if (sign >= 'a' && sign <= 'h') {
                letters |= 1 << (sign - 'a');
                at++;
                return new Part(digit, sign, null);
            }
            if (sign != '(' || open == 4) throw new Fault(at);
            at++;
            List<Sum> sums = new ArrayList<>();
            sums.add(sum(open + 1));
            while (sign() == '|') {
                at++;
                sums.add(sum(open + 1));
            }
            if (sign() != ')') throw new Fault(at);
            at++;
            return new Part(digit, '(', sums);
        }
    }

    private static final class Pupil {
        int school, lacks, gift, appeals, released = -1;
        boolean urgent;
    }

    private static final class Reader {
        int school, questions, hand = -1, handSeed, since, seedsGiven;
        boolean senior, stopped, handAppeal;
        /** Those that the next seed vouches for. */
        List<Reading> open = new ArrayList<>();
        List<Integer> given = new ArrayList<>();
    }

    private record Seed(int question, int points) {}

    private static final class Reading {
        int pupil, question, points, letters;
        Reader by;
        boolean isVoid, forAppeal;
    }

    private final List<Pupil> pupils = new ArrayList<>();
    private final List<Reader> readers = new ArrayList<>();
    private final List<Seed> seeds = new ArrayList<>();
    private final List<Reading> log = new ArrayList<>();
    private final List<List<Scheme>> schemes = List.of(new ArrayList<>(), new ArrayList<>(), new ArrayList<>(), new ArrayList<>());
    private final boolean[] twice = new boolean[4];
    private final StringBuilder line = new StringBuilder();
    private final int[] lines = new int[3];
    private int tolerance = 1;
    private boolean released;

    private static void bounds(boolean ok) {
        if (!ok) throw new IndexOutOfBoundsException();
    }

    private static void illegal(boolean ok) {
        if (!ok) throw new IllegalArgumentException();
    }

    private static void state(boolean ok) {
        if (!ok) throw new IllegalStateException();
    }

    private static boolean in(int x, int from, int to) {
        return from <= x && x <= to;
    }

    private Pupil p(int pupil) {
        bounds(in(pupil, 0, pupils.size() - 1));
        return pupils.get(pupil);
    }

    private Reader r(int reader) {
        bounds(in(reader, 0, readers.size() - 1));
        return readers.get(reader);
    }

    private static void q(int question) {
        bounds(in(question, 0, 3));
    }

    private Scheme holds(int question) {
        List<Scheme> all = schemes.get(question);
        return all.get(all.size() - 1);
    }

    int pupil(int school, int lacks, boolean urgent) {
        illegal(in(school, 0, 4) && in(lacks, 0, 15));
        state(pupils.size() < 16);
        Pupil p = new Pupil();
        p.school = school;
        p.lacks = lacks;
        p.urgent = urgent;
        pupils.add(p);
        return pupils.size() - 1;
    }

    int gift(int pupil, int marks) {
        Pupil p = p(pupil);
        illegal(in(marks, 0, 9));
        int was = p.gift;
        p.gift = marks;
        return was;
    }

    int type(int sign) {
        illegal(in(sign, 32, 126));
        state(line.length() < 40);
        return line.append((char) sign).length();
    }

    int scheme(int question) {
        q(question);
        state(schemes.get(question).size() < 6);
        String text = line.toString();
        line.setLength(0);
        try {
            schemes.get(question).add(new Descent(text).whole());
            return schemes.get(question).size() - 1;
        } catch (Fault fault) {
            return -1 - fault.place;
        }
    }

    boolean twice(int question, boolean is) {
        q(question);
        boolean was = twice[question];
        twice[question] = is;
        return was;
    }

    int tolerance(int marks) {
        illegal(in(marks, 0, 9));
        int was = tolerance;
        tolerance = marks;
        return was;
    }

    int reader(int school, int questions, boolean senior) {
        illegal(in(school, -1, 4) && in(questions, 1, 15));
        state(readers.size() < 6);
        Reader r = new Reader();
        r.school = school;
        r.questions = questions;
        r.senior = senior;
        readers.add(r);
        return readers.size() - 1;
    }

    int seed(int question, int points) {
        q(question);
        illegal(in(points, 0, 255));
        state(seeds.size() < 8 && !schemes.get(question).isEmpty());
        seeds.add(new Seed(question, points));
        return seeds.size() - 1;
    }

    int next(int reader) {
        Reader r = r(reader);
        state(!r.stopped);
        if (r.hand != -1) return r.hand;
        if (r.since >= 3) {
            for (int s = 0; s < seeds.size(); s++) {
                int question = seeds.get(s).question;
                if (r.given.contains(s) || (r.questions >> question & 1) == 0) continue;
                r.given.add(s);
                r.handSeed = s;
                return r.hand = 1000 + question;
            }
        }
        List<Integer> codes = IntStream.range(0, pupils.size() * 4).boxed()
            .sorted(Comparator.comparing((Integer a) -> !pupils.get(a / 4).urgent))
            .filter(a -> canBeGiven(r, a / 4, a % 4)).map(a -> a / 4 * 10 + a % 4).collect(Collectors.toList());
        if (codes.isEmpty()) return -1;
        r.hand = codes.get(0);
        r.handAppeal = wants(r.hand / 10, r.hand % 10).equals("appeal");
        return r.hand;
    }

    private boolean canBeGiven(Reader r, int pupil, int question) {
        if (pupils.get(pupil).school == r.school) return false;
        if ((r.questions >> question & 1) == 0 || schemes.get(question).isEmpty()) return false;
        if (log.stream().anyMatch(x -> x.by == r && x.pupil == pupil && x.question == question && counts(x))) return false;
        long holders = readers.stream().filter(o -> o.hand == 10 * pupil + question).count();
        String wants = wants(pupil, question);
        if (number(wants) <= holders) return false;
        return r.senior || !wants.equals("third") && !wants.equals("appeal");
    }

    private boolean counts(Reading x) {
        int letters = holds(x.question).letters;
        return !x.isVoid && (letters & x.letters) == letters;
    }

    private int mark(Reading x) {
        return holds(x.question).mark(x.points);
    }

    private List<Reading> counting(int pupil, int question, boolean forAppeal) {
        return log.stream().filter(x -> x.pupil == pupil && x.question == question)
            .filter(x -> counts(x) && x.forAppeal == forAppeal).collect(Collectors.toList());
    }

    private boolean apart(int a, int b) {
        return Math.abs(a - b) > tolerance;
    }

    private static int number(String wants) {
        return switch (wants) {
            case "nothing" -> 0;
            case "two" -> 2;
            default -> 1;
        };
    }

    private String wants(int pupil, int question) {
        if ((pupils.get(pupil).lacks >> question & 1) != 0) return "nothing";
        List<Reading> plain = counting(pupil, question, false);
        if (plain.isEmpty()) return twice[question] ? "two" : "one";
        if (twice[question]) {
            if (plain.size() == 1) return "one";
            boolean apart = apart(mark(plain.get(0)), mark(plain.get(1)));
            if (apart && plain.stream().skip(2).noneMatch(x -> x.by.senior)) return "third";
        }
        boolean appealed = (pupils.get(pupil).appeals >> question & 1) != 0;
        return appealed && counting(pupil, question, true).isEmpty() ? "appeal" : "nothing";
    }

    int read(int reader, int points) {
        Reader r = r(reader);
        illegal(in(points, 0, 255));
        state(r.hand != -1 && (r.hand >= 1000 || log.size() < 300));
        int hand = r.hand;
        r.hand = -1;
        if (hand < 1000) {
            Reading x = new Reading();
            x.pupil = hand / 10;
            x.question = hand % 10;
            x.letters = holds(x.question).letters;
            x.points = points & x.letters;
            x.by = r;
            x.forAppeal = r.handAppeal;
            log.add(x);
            r.open.add(x);
            r.since++;
            return mark(x);
        }
        Seed seed = seeds.get(r.handSeed);
        int found = holds(seed.question).mark(points);
        if (apart(found, holds(seed.question).mark(seed.points))) {
            r.stopped = true;
            r.open.forEach(x -> x.isVoid = true);
        }
        r.open.clear();
        r.since = 0;
        return found;
    }

    int goOn(int reader) {
        Reader r = r(reader);
        state(r.stopped);
        r.stopped = false;
        r.since = 0;
        return ofReader(reader, 3);
    }

    int lines(int first, int second, int third) {
        illegal(in(first, 0, 999) && in(second, 0, first) && in(third, 0, second));
        state(!released);
        lines[0] = first;
        lines[1] = second;
        lines[2] = third;
        return (int) IntStream.range(0, pupils.size()).filter(p -> grade(p, false) == 3).count();
    }

    int release() {
        state(!released && !pupils.isEmpty());
        state(IntStream.range(0, pupils.size()).allMatch(p -> total(p) != -1));
        released = true;
        for (int p = 0; p < pupils.size(); p++) pupils.get(p).released = grade(p, false);
        return (int) pupils.stream().filter(p -> p.released > 0).count();
    }

    int appeal(int pupil, int question) {
        Pupil p = p(pupil);
        q(question);
        state(released && (p.lacks >> question & 1) == 0 && (p.appeals >> question & 1) == 0 && mark(pupil, question) != -1);
        int mark = mark(pupil, question);
        p.appeals |= 1 << question;
        return mark;
    }

    int versions(int question) {
        q(question);
        return schemes.get(question).size();
    }

    int markOf(int question, int version, int points) {
        q(question);
        bounds(in(version, 0, schemes.get(question).size() - 1));
        illegal(in(points, 0, 255));
        return schemes.get(question).get(version).mark(points);
    }

    char written(int question, int version, int place) {
        q(question);
        bounds(in(version, 0, schemes.get(question).size() - 1) && place >= 0);
        String full = schemes.get(question).get(version).full;
        return place < full.length() ? full.charAt(place) : 0;
    }

    int mark(int pupil, int question) {
        Pupil p = p(pupil);
        q(question);
        if ((p.lacks >> question & 1) != 0) return 0;
        String wants = wants(pupil, question);
        if (!wants.equals("nothing") && !wants.equals("appeal")) return -1;
        List<Reading> plain = counting(pupil, question, false);
        int mark = mark(plain.get(0));
        if (twice[question]) {
            int other = mark(plain.get(1));
            if (!apart(mark, other)) mark = (mark + other + 1) / 2;
            else mark = mark(plain.stream().skip(2).filter(x -> x.by.senior).findFirst().orElseThrow());
        }
        List<Reading> forAppeal = counting(pupil, question, true);
        return !forAppeal.isEmpty() && apart(mark(forAppeal.get(0)), mark) ? mark(forAppeal.get(0)) : mark;
    }

    int markAnew(int pupil, int question) {
        return mark(pupil, question);
    }

    int answer(int pupil, int question, int what) {
        Pupil p = p(pupil);
        q(question);
        illegal(in(what, 0, 3));
        return switch (what) {
            case 0 -> counting(pupil, question, false).size() + counting(pupil, question, true).size();
            case 1 -> (int) log.stream().filter(x -> x.pupil == pupil && x.question == question).count();
            case 2 -> number(wants(pupil, question));
            default -> p.appeals >> question & 1;
        };
    }

    int total(int pupil) {
        Pupil p = p(pupil);
        int[] marks = IntStream.range(0, 4).map(q -> mark(pupil, q)).toArray();
        if (IntStream.of(marks).anyMatch(m -> m == -1)) return -1;
        return marks[0] + marks[1] + Math.max(marks[2], marks[3]) + p.gift;
    }

    int grade(int pupil, boolean ofRelease) {
        Pupil p = p(pupil);
        if (ofRelease) return p.released;
        int total = total(pupil);
        if (total == -1) return -1;
        for (int i = 0; i < 3; i++) {
            if (total >= lines[i]) return 3 - i;
        }
        return 0;
    }

    int changed() {
        return (int) IntStream.range(0, pupils.size())
            .filter(p -> grade(p, true) != -1 && grade(p, true) != grade(p, false)).count();
    }

    int lineOf(int share) {
        illegal(in(share, 0, 100));
        int[] there = IntStream.range(0, pupils.size()).map(this::total).filter(t -> t != -1).toArray();
        return IntStream.rangeClosed(0, 999)
            .filter(l -> IntStream.of(there).filter(t -> t >= l).count() * 100 <= share * there.length)
            .findFirst().orElseThrow();
    }

    int lineAnew(int share) {
        return lineOf(share);
    }

    int ofReader(int reader, int what) {
        Reader r = r(reader);
        illegal(in(what, 0, 5));
        return switch (what) {
            case 0 -> r.stopped ? 1 : 0;
            case 1 -> r.hand;
            case 2 -> (int) log.stream().filter(x -> x.by == r).count();
            case 3 -> (int) log.stream().filter(x -> x.by == r && x.isVoid).count();
            case 4 -> r.since;
            default -> r.given.size();
        };
    }

    int wanted() {
        int sum = 0;
        for (int p = 0; p < pupils.size(); p++) {
            for (int q = 0; q < 4; q++) sum += number(wants(p, q));
        }
        return sum;
    }
}
