/**
 * A land's papers marked: schemes, readers, seeds, readings, totals, lines, a release and appeals.
 * The promises that the comments name are those of the project's document.
 */
public final class ScriptRoom {
    public static final int NONE = -1;

    private static final int QUESTIONS = 4;
    private static final int MOST_POINTS = 255;
    private static final int MOST_MARK = 99;
    private static final int MOST_LINE = 999;
    private static final int READ_PER_SEED = 3;
    /** What a seed's question is added to, as next() tells it. */
    private static final int SEED = 1000;

    private final Line line;
    private final Draft draft;
    private final Schemes schemes;
    private final Pupils pupils;
    private final Readers readers;
    private final Seeds seeds;
    private final Log log;
    private final Tally tally;
    private final Row doubled;
    private final Row totals;
    private int apartAtMost;
    private int firstLine;
    private int secondLine;
    private int thirdLine;
    private boolean isReleased;

    public ScriptRoom() {
        line = new Line();
        draft = new Draft();
        schemes = new Schemes();
        pupils = new Pupils();
        readers = new Readers();
        seeds = new Seeds();
        log = new Log();
        tally = new Tally();
        doubled = new Row(QUESTIONS);
        totals = new Row(Pupils.MOST);
        apartAtMost = 1;
    }

    // ---- pupils, schemes

    public int pupil(int school, int lacks, boolean isUrgent) throws IllegalArgumentException, IllegalStateException {
        if (school < 0 || school > 4 || lacks < 0 || lacks > 15) throw new IllegalArgumentException();
        if (pupils.count >= Pupils.MOST) throw new IllegalStateException();
        return pupils.enter(school, lacks, isUrgent);
    }

    public int gift(int pupil, int marks) throws IndexOutOfBoundsException, IllegalArgumentException {
        if (!pupils.has(pupil)) throw new IndexOutOfBoundsException();
        if (marks < 0 || marks > 9) throw new IllegalArgumentException();
        int before = pupils.gifts.get(pupil);
        pupils.gifts.set(pupil, marks);
        return before;
    }

    public int type(int sign) throws IllegalArgumentException, IllegalStateException {
        if (sign < 32 || sign > 126) throw new IllegalArgumentException();
        if (line.count >= Line.MOST) throw new IllegalStateException();
        line.append(sign);
        return line.count;
    }

    public int scheme(int question) throws IndexOutOfBoundsException, IllegalStateException {
        if (!isQuestion(question)) throw new IndexOutOfBoundsException();
        if (schemes.counts.get(question) >= Schemes.MOST) throw new IllegalStateException();
        int fault = draft.faultOf(line);
        line.clear();
        if (fault != NONE) return -1 - fault;
        int version = schemes.enter(question, draft);
        weighReadings(question);
        return version;
    }

    public boolean twice(int question, boolean is) throws IndexOutOfBoundsException {
        if (!isQuestion(question)) throw new IndexOutOfBoundsException();
        boolean before = doubled.is(question);
        doubled.put(question, is);
        return before;
    }

    public int tolerance(int marks) throws IllegalArgumentException {
        if (marks < 0 || marks > 9) throw new IllegalArgumentException();
        int before = apartAtMost;
        apartAtMost = marks;
        return before;
    }

    // ---- readers

    public int reader(int school, int questions, boolean isSenior) throws IllegalArgumentException, IllegalStateException {
        if (school < -1 || school > 4 || questions < 1 || questions > 15) throw new IllegalArgumentException();
        if (readers.count >= Readers.MOST) throw new IllegalStateException();
        return readers.enter(school, questions, isSenior);
    }

    public int seed(int question, int points) throws IndexOutOfBoundsException, IllegalArgumentException, IllegalStateException {
        if (!isQuestion(question)) throw new IndexOutOfBoundsException();
        if (!arePoints(points)) throw new IllegalArgumentException();
        if (seeds.count >= Seeds.MOST || !schemes.holdsFor(question)) throw new IllegalStateException();
        return seeds.enter(question, points);
    }

    public int next(int reader) throws IndexOutOfBoundsException, IllegalStateException {
        if (!readers.has(reader)) throw new IndexOutOfBoundsException();
        if (readers.stopped.is(reader)) throw new IllegalStateException();
        if (readers.hands.get(reader) == NONE) giveWhatIsNext(reader);
        return readers.hands.get(reader);
    }

    public int read(int reader, int points) throws IndexOutOfBoundsException, IllegalArgumentException, IllegalStateException {
        if (!readers.has(reader)) throw new IndexOutOfBoundsException();
        if (!arePoints(points)) throw new IllegalArgumentException();
        int hand = readers.hands.get(reader);
        boolean isSeed = hand >= SEED;
        if (hand == NONE || !isSeed && log.count >= Log.MOST) throw new IllegalStateException();
        return isSeed ? readSeed(reader, points) : readAnswer(reader, points);
    }

    public int goOn(int reader) throws IndexOutOfBoundsException, IllegalStateException {
        if (!readers.has(reader)) throw new IndexOutOfBoundsException();
        if (!readers.stopped.is(reader)) throw new IllegalStateException();
        readers.stopped.put(reader, false);
        readers.startAnew(reader, log.count);
        return readers.voids.get(reader);
    }

    // ---- lines, release, appeals

    public int lines(int first, int second, int third) throws IllegalArgumentException, IllegalStateException {
        if (first < 0 || first > MOST_LINE) throw new IllegalArgumentException();
        if (second < 0 || second > first || third < 0 || third > second) throw new IllegalArgumentException();
        if (isReleased) throw new IllegalStateException();
        firstLine = first;
        secondLine = second;
        thirdLine = third;
        return pupilsFrom(first, gatherTotals());
    }

    public int release() throws IllegalStateException {
        if (isReleased || pupils.count == 0 || gatherTotals() < pupils.count) throw new IllegalStateException();
        isReleased = true;
        int above = 0;
        for (int pupil = 0; pupil < pupils.count; pupil++) {
            int grade = gradeNow(pupil);
            pupils.grades.set(pupil, grade);
            if (grade > 0) above++;
        }
        return above;
    }

    public int appeal(int pupil, int question) throws IndexOutOfBoundsException, IllegalStateException {
        if (!pupils.has(pupil) || !isQuestion(question)) throw new IndexOutOfBoundsException();
        if (!isReleased || pupils.isLacking(pupil, question)) throw new IllegalStateException();
        int mark = markNow(pupil, question);
        if (pupils.isAppealed(pupil, question) || mark == NONE) throw new IllegalStateException();
        pupils.noteAppeal(pupil, question);
        return mark;
    }

    // ---- what there is; nothing from here on changes anything

    public int versions(int question) throws IndexOutOfBoundsException {
        if (!isQuestion(question)) throw new IndexOutOfBoundsException();
        return schemes.counts.get(question);
    }

    public int markOf(int question, int version, int points) throws IndexOutOfBoundsException, IllegalArgumentException {
        if (!isQuestion(question) || !schemes.has(question, version)) throw new IndexOutOfBoundsException();
        if (!arePoints(points)) throw new IllegalArgumentException();
        return schemes.markBy(question, version, points);
    }

    public char written(int question, int version, int place) throws IndexOutOfBoundsException {
        if (!isQuestion(question) || !schemes.has(question, version) || place < 0) throw new IndexOutOfBoundsException();
        return (char) schemes.signAt(question, version, place);
    }

    public int mark(int pupil, int question) throws IndexOutOfBoundsException {
        if (!pupils.has(pupil) || !isQuestion(question)) throw new IndexOutOfBoundsException();
        return markNow(pupil, question);
    }

    public int markAnew(int pupil, int question) throws IndexOutOfBoundsException {
        if (!pupils.has(pupil) || !isQuestion(question)) throw new IndexOutOfBoundsException();
        if (pupils.isLacking(pupil, question)) return 0;
        int answer = answerOf(pupil, question);
        int found = doubled.is(question) ? doubleFromLog(answer) : markFound(findReading(answer, 0, false, false));
        int other = markFound(findReading(answer, 0, true, false));
        return found != NONE && other != NONE && areApart(found, other, apartAtMost) ? other : found;
    }

    public int answer(int pupil, int question, int what) throws IndexOutOfBoundsException, IllegalArgumentException {
        if (!pupils.has(pupil) || !isQuestion(question)) throw new IndexOutOfBoundsException();
        if (what < 0 || what > 3) throw new IllegalArgumentException();
        if (what == 2) return wantedBy(pupil, question);
        if (what == 3) return pupils.isAppealed(pupil, question) ? 1 : 0;
        tallyUp(pupil, question);
        return what == 0 ? tally.counting : tally.all;
    }

    public int total(int pupil) throws IndexOutOfBoundsException {
        if (!pupils.has(pupil)) throw new IndexOutOfBoundsException();
        return totalNow(pupil);
    }

    public int grade(int pupil, boolean released) throws IndexOutOfBoundsException {
        if (!pupils.has(pupil)) throw new IndexOutOfBoundsException();
        return released ? pupils.grades.get(pupil) : gradeNow(pupil);
    }

    public int changed() {
        int others = 0;
        for (int pupil = 0; pupil < pupils.count; pupil++) {
            int before = pupils.grades.get(pupil);
            if (before != NONE && before != gradeNow(pupil)) others++;
        }
        return others;
    }

    public int lineOf(int share) throws IllegalArgumentException {
        if (share < 0 || share > 100) throw new IllegalArgumentException();
        int many = gatherTotals();
        if (isWithin(0, share, many)) return 0;
        // Ever fewer pupils reach a rising line, and their number changes only right behind a total.
        int least = MOST_LINE;
        for (int i = 0; i < many; i++) {
            int behind = totals.get(i) + 1;
            if (behind < least && isWithin(behind, share, many)) least = behind;
        }
        return least;
    }

    public int lineAnew(int share) throws IllegalArgumentException {
        if (share < 0 || share > 100) throw new IllegalArgumentException();
        int many = gatherTotals();
        for (int mark = 0; mark < MOST_LINE; mark++) {
            if (isWithin(mark, share, many)) return mark;
        }
        return MOST_LINE;
    }

    public int ofReader(int reader, int what) throws IndexOutOfBoundsException, IllegalArgumentException {
        if (!readers.has(reader)) throw new IndexOutOfBoundsException();
        switch (what) {
            case 0: return readers.stopped.get(reader);
            case 1: return readers.hands.get(reader);
            case 2: return readers.reads.get(reader);
            case 3: return readers.voids.get(reader);
            case 4: return readers.sinces.get(reader);
            case 5: return Integer.bitCount(readers.given.get(reader));
            default: throw new IllegalArgumentException();
        }
    }

    public int wanted() {
        int sum = 0;
        for (int pupil = 0; pupil < pupils.count; pupil++) {
            for (int question = 0; question < QUESTIONS; question++) sum += wantedBy(pupil, question);
        }
        return sum;
    }

    // ---- arguments

    private static boolean isQuestion(int question) {
        return question >= 0 && question < QUESTIONS;
    }

    private static boolean arePoints(int points) {
        return points >= 0 && points <= MOST_POINTS;
    }

    private static int answerOf(int pupil, int question) {
        return pupil * QUESTIONS + question;
    }

    private static boolean areApart(int one, int other, int most) {
        return one - other > most || other - one > most;
    }

    // ---- giving

    private void giveWhatIsNext(int reader) {
        int seed = seedDue(reader);
        if (seed != NONE) {
            readers.handSeed(reader, seed, SEED + seeds.questions.get(seed));
            return;
        }
        if (!giveAnswer(reader, true)) giveAnswer(reader, false);
    }

    private int seedDue(int reader) {
        if (readers.sinces.get(reader) < READ_PER_SEED) return NONE;
        for (int seed = 0; seed < seeds.count; seed++) {
            boolean isTheirs = readers.isFor(reader, seeds.questions.get(seed));
            if (isTheirs && (readers.given.get(reader) >> seed & 1) == 0) return seed;
        }
        return NONE;
    }

    private boolean giveAnswer(int reader, boolean isUrgent) {
        for (int pupil = 0; pupil < pupils.count; pupil++) {
            if (pupils.urgent.is(pupil) != isUrgent) continue;
            for (int question = 0; question < QUESTIONS; question++) {
                if (!canBeGiven(reader, pupil, question)) continue;
                boolean isForAppeal = tally.lackingAsPlain(doubled.is(question), apartAtMost) == 0;
                readers.handAnswer(reader, codeOf(pupil, question), isForAppeal);
                return true;
            }
        }
        return false;
    }

    private static int codeOf(int pupil, int question) {
        return 10 * pupil + question;
    }

    /** Leaves the answer's tally behind if it can be given. */
    private boolean canBeGiven(int reader, int pupil, int question) {
        if (pupils.isLacking(pupil, question) || pupils.schools.get(pupil) == readers.schools.get(reader)) return false;
        if (!readers.isFor(reader, question) || !schemes.holdsFor(question)) return false;
        if (hasReadingBy(reader, answerOf(pupil, question))) return false;
        if (wantedBy(pupil, question) <= readers.holding(codeOf(pupil, question))) return false;
        return readers.senior.is(reader) || !tally.isPastDue(doubled.is(question));
    }

    private boolean hasReadingBy(int reader, int answer) {
        int many = log.numbers.get(answer);
        int at = log.heads.get(answer);
        for (int n = 0; n < many; n++) {
            if (log.readers.get(at) == reader && log.worths.get(at) != NONE) return true;
            at = log.follows.get(at);
        }
        return false;
    }

    // ---- reading

    private int readSeed(int reader, int points) {
        int seed = readers.handSeeds.get(reader);
        int question = seeds.questions.get(seed);
        int found = schemes.markByLatest(question, points);
        int known = schemes.markByLatest(question, seeds.points.get(seed));
        if (areApart(found, known, apartAtMost)) stop(reader);
        readers.emptyHand(reader);
        readers.startAnew(reader, log.count);
        return found;
    }

    private void stop(int reader) {
        readers.stopped.put(reader, true);
        for (int at = readers.starts.get(reader); at < log.count; at++) {
            if (log.readers.get(at) != reader) continue;
            log.voids.put(at, true);
            log.worths.set(at, NONE);
            readers.voids.add(reader, 1);
        }
    }

    private int readAnswer(int reader, int points) {
        int hand = readers.hands.get(reader);
        int question = hand % 10;
        int letters = schemes.lettersOfLatest(question);
        int mark = schemes.markByLatest(question, points & letters);
        int at = log.enter(answerOf(hand / 10, question), reader);
        log.points.set(at, points & letters);
        log.letters.set(at, letters);
        log.appeals.put(at, readers.handAppeals.is(reader));
        log.worths.set(at, mark);
        readers.emptyHand(reader);
        readers.reads.add(reader, 1);
        readers.sinces.add(reader, 1);
        return mark;
    }

    private void weighReadings(int question) {
        for (int at = 0; at < log.count; at++) {
            if (log.answers.get(at) % QUESTIONS != question) continue;
            log.worths.set(at, isCounting(at, question) ? schemes.markByLatest(question, log.points.get(at)) : NONE);
        }
    }

    /** Finds from what was logged whether a reading counts. */
    private boolean isCounting(int at, int question) {
        return !log.voids.is(at) && (schemes.lettersOfLatest(question) & ~log.letters.get(at)) == 0;
    }

    // ---- marks

    private void tallyUp(int pupil, int question) {
        tally.clear();
        int answer = answerOf(pupil, question);
        int many = log.numbers.get(answer);
        int at = log.heads.get(answer);
        for (int n = 0; n < many; n++) {
            tally.take(log.worths.get(at), readers.senior.is(log.readers.get(at)), log.appeals.is(at));
            at = log.follows.get(at);
        }
    }

    private int wantedBy(int pupil, int question) {
        if (pupils.isLacking(pupil, question)) return 0;
        tallyUp(pupil, question);
        int asPlain = tally.lackingAsPlain(doubled.is(question), apartAtMost);
        if (asPlain > 0) return asPlain;
        return pupils.isAppealed(pupil, question) && tally.appealed == NONE ? 1 : 0;
    }

    private int markNow(int pupil, int question) {
        if (pupils.isLacking(pupil, question)) return 0;
        tallyUp(pupil, question);
        return tally.outcome(doubled.is(question), apartAtMost);
    }

    private int doubleFromLog(int answer) {
        int first = findReading(answer, 0, false, false);
        int second = findReading(answer, first + 1, false, false);
        int one = markFound(first);
        int other = markFound(second);
        if (one == NONE || other == NONE) return NONE;
        if (!areApart(one, other, apartAtMost)) return (one + other + 1) / 2;
        return markFound(findReading(answer, second + 1, false, true));
    }

    /** The first reading in the log, from a place on, that counts and is of that kind; otherwise the log's end. */
    private int findReading(int answer, int from, boolean isForAppeal, boolean bySenior) {
        for (int at = from; at < log.count; at++) {
            if (log.answers.get(at) != answer || log.appeals.is(at) != isForAppeal) continue;
            if (bySenior && !readers.senior.is(log.readers.get(at))) continue;
            if (isCounting(at, answer % QUESTIONS)) return at;
        }
        return log.count;
    }

    private int markFound(int at) {
        return at < log.count ? schemes.markByLatest(log.answers.get(at) % QUESTIONS, log.points.get(at)) : NONE;
    }

    // ---- totals, grades, lines

    private int totalNow(int pupil) {
        int zero = markNow(pupil, 0);
        int one = markNow(pupil, 1);
        int two = markNow(pupil, 2);
        int three = markNow(pupil, 3);
        if (zero == NONE || one == NONE || two == NONE || three == NONE) return NONE;
        return zero + one + Math.max(two, three) + pupils.gifts.get(pupil);
    }

    private int gradeNow(int pupil) {
        int total = totalNow(pupil);
        if (total == NONE) return NONE;
        if (total >= firstLine) return 3;
        if (total >= secondLine) return 2;
        return total >= thirdLine ? 1 : 0;
    }

    /** Writes the totals that are there into their row; returns how many these are. */
    private int gatherTotals() {
        int many = 0;
        for (int pupil = 0; pupil < pupils.count; pupil++) {
            int total = totalNow(pupil);
            if (total == NONE) continue;
            totals.set(many, total);
            many++;
        }
        return many;
    }

    private int pupilsFrom(int least, int many) {
        int reach = 0;
        for (int i = 0; i < many; i++) {
            if (totals.get(i) >= least) reach++;
        }
        return reach;
    }

    private boolean isWithin(int least, int share, int many) {
        return pupilsFrom(least, many) * 100 <= share * many;
    }

    /** Numbers in a row. All arrays of the room are in rows, and no place is used that was not looked at. */
    private static final class Row {
        private final int[] cells;

        Row(int length) {
            cells = new int[Math.max(length, 0)];
        }

        int get(int place) {
            return place >= 0 && place < cells.length ? cells[place] : 0;
        }

        void set(int place, int value) {
            if (place >= 0 && place < cells.length) cells[place] = value;
        }

        void add(int place, int more) {
            if (place >= 0 && place < cells.length) cells[place] += more;
        }

        boolean is(int place) {
            return place >= 0 && place < cells.length && cells[place] != 0;
        }

        void put(int place, boolean is) {
            if (place >= 0 && place < cells.length) cells[place] = is ? 1 : 0;
        }
    }

    /** The line that is typed. */
    private static final class Line {
        static final int MOST = 40;

        final Row signs = new Row(MOST);
        int count;

        void append(int sign) {
            if (count >= MOST) return;
            signs.set(count, sign);
            count++;
        }

        void clear() {
            count = 0;
        }
    }

    /** A line as it is read as a scheme, sign by sign, and written in full on the way. */
    private static final class Draft {
        /** Each sign brings at most a digit along that was not typed. */
        static final int MOST = 2 * Line.MOST;
        private static final int MOST_OPEN = 4;

        private static final int AT_PART = 0;
        private static final int AT_HEAD = 1;
        private static final int BEHIND_PART = 2;
        private static final int AT_NUMBER = 3;
        private static final int IN_NUMBER = 4;
        private static final int BEHIND_NUMBER = 5;

        final Row signs = new Row(MOST);
        int count;
        int letters;
        int number;
        private int open;
        private int state;

        /** The place of the first sign that cannot stand there; NONE if all can. */
        int faultOf(Line line) {
            begin();
            for (int place = 0; place < line.count; place++) {
                if (!takes(line.signs.get(place))) return place;
            }
            boolean isWhole = state == BEHIND_PART && open == 0 || state == IN_NUMBER || state == BEHIND_NUMBER;
            if (!isWhole) return line.count;
            writeNumber();
            return NONE;
        }

        private void begin() {
            count = 0;
            letters = 0;
            number = NONE;
            open = 0;
            state = AT_PART;
        }

        private boolean takes(int sign) {
            if (state == AT_PART && (sign < '1' || sign > '9')) {
                write('1');
                state = AT_HEAD;
            }
            switch (state) {
                case AT_PART: return goesTo(AT_HEAD, sign);
                case AT_HEAD: return takesAtHead(sign);
                case BEHIND_PART: return takesBehindPart(sign);
                case AT_NUMBER: return takesInNumber(sign, 0, IN_NUMBER);
                case IN_NUMBER: return takesInNumber(sign, number, BEHIND_NUMBER);
                default: return false;
            }
        }

        private boolean takesAtHead(int sign) {
            if (sign >= 'a' && sign <= 'h') {
                letters |= 1 << (sign - 'a');
                return goesTo(BEHIND_PART, sign);
            }
            if (sign != '(' || open >= MOST_OPEN) return false;
            open++;
            return goesTo(AT_PART, sign);
        }

        private boolean takesBehindPart(int sign) {
            if (sign == '+' || sign == '|' && open > 0) return goesTo(AT_PART, sign);
            if (sign == ')' && open > 0) {
                open--;
                return goesTo(BEHIND_PART, sign);
            }
            if (sign != '<' || open > 0) return false;
            return goesTo(AT_NUMBER, sign);
        }

        private boolean takesInNumber(int sign, int ahead, int then) {
            if (sign < '0' || sign > '9') return false;
            number = 10 * ahead + sign - '0';
            state = then;
            return true;
        }

        private boolean goesTo(int then, int sign) {
            write(sign);
            state = then;
            return true;
        }

        private void writeNumber() {
            if (number == NONE) return;
            if (number > 9) write('0' + number / 10);
            write('0' + number % 10);
        }

        private void write(int sign) {
            signs.set(count, sign);
            count++;
        }
    }

    /** All versions of all questions, as they are written in full. */
    private static final class Schemes {
        static final int MOST = 6;
        private static final int ALL = QUESTIONS * MOST;
        private static final int LEVELS = Draft.MOST_OPEN + 1;

        final Row counts = new Row(QUESTIONS);
        private final Row signs = new Row(ALL * Draft.MOST);
        private final Row lengths = new Row(ALL);
        private final Row letters = new Row(ALL);
        private final Row mosts = new Row(ALL);
        private final Row sums = new Row(LEVELS);
        private final Row bests = new Row(LEVELS);
        private final Row factors = new Row(LEVELS);

        boolean has(int question, int version) {
            return version >= 0 && version < counts.get(question);
        }

        boolean holdsFor(int question) {
            return counts.get(question) > 0;
        }

        int enter(int question, Draft draft) {
            int version = counts.get(question);
            int at = question * MOST + version;
            for (int place = 0; place < draft.count; place++) {
                signs.set(at * Draft.MOST + place, draft.signs.get(place));
            }
            lengths.set(at, draft.count);
            letters.set(at, draft.letters);
            mosts.set(at, draft.number == NONE ? MOST_MARK : draft.number);
            counts.add(question, 1);
            return version;
        }

        int signAt(int question, int version, int place) {
            int at = question * MOST + version;
            return place < lengths.get(at) ? signs.get(at * Draft.MOST + place) : 0;
        }

        int lettersOfLatest(int question) {
            return letters.get(question * MOST + counts.get(question) - 1);
        }

        int markByLatest(int question, int points) {
            return markBy(question, counts.get(question) - 1, points);
        }

        int markBy(int question, int version, int points) {
            int at = question * MOST + version;
            int length = lengths.get(at);
            int level = 0;
            int factor = 1;
            begin(level, factor);
            for (int place = 0; place < length; place++) {
                int sign = signs.get(at * Draft.MOST + place);
                if (sign == '<') break;
                if (sign >= '1' && sign <= '9') factor = sign - '0';
                if (sign >= 'a' && sign <= 'h') sums.add(level, factor * (points >> (sign - 'a') & 1));
                if (sign == '(') {
                    level++;
                    begin(level, factor);
                }
                if (sign == '|' || sign == ')') endSum(level);
                if (sign == ')') {
                    sums.add(level - 1, factors.get(level) * bests.get(level));
                    level--;
                }
            }
            return Math.min(sums.get(0), mosts.get(at));
        }

        private void begin(int level, int factor) {
            sums.set(level, 0);
            bests.set(level, 0);
            factors.set(level, factor);
        }

        private void endSum(int level) {
            bests.set(level, Math.max(bests.get(level), sums.get(level)));
            sums.set(level, 0);
        }
    }

    private static final class Pupils {
        static final int MOST = 16;

        int count;
        final Row schools = new Row(MOST);
        final Row urgent = new Row(MOST);
        final Row gifts = new Row(MOST);
        /** The released grades; NONE for who was not there. */
        final Row grades = new Row(MOST);
        private final Row lacks = new Row(MOST);
        private final Row appeals = new Row(MOST);

        boolean has(int pupil) {
            return pupil >= 0 && pupil < count;
        }

        int enter(int school, int lacking, boolean isUrgent) {
            int pupil = count;
            schools.set(pupil, school);
            lacks.set(pupil, lacking);
            urgent.put(pupil, isUrgent);
            grades.set(pupil, NONE);
            count++;
            return pupil;
        }

        boolean isLacking(int pupil, int question) {
            return (lacks.get(pupil) >> question & 1) != 0;
        }

        boolean isAppealed(int pupil, int question) {
            return (appeals.get(pupil) >> question & 1) != 0;
        }

        void noteAppeal(int pupil, int question) {
            appeals.set(pupil, appeals.get(pupil) | 1 << question);
        }
    }

    private static final class Readers {
        static final int MOST = 6;

        int count;
        final Row schools = new Row(MOST);
        final Row senior = new Row(MOST);
        final Row stopped = new Row(MOST);
        /** What is at hand, as next() tells, the seed that it is, and whether it was given for an appeal. */
        final Row hands = new Row(MOST);
        final Row handSeeds = new Row(MOST);
        final Row handAppeals = new Row(MOST);
        final Row reads = new Row(MOST);
        final Row voids = new Row(MOST);
        final Row sinces = new Row(MOST);
        /** Where in the log the readings begin that the next seed vouches for. */
        final Row starts = new Row(MOST);
        /** The seeds that were given, as bits. */
        final Row given = new Row(MOST);
        private final Row questions = new Row(MOST);

        boolean has(int reader) {
            return reader >= 0 && reader < count;
        }

        int enter(int school, int theirs, boolean isSenior) {
            int reader = count;
            schools.set(reader, school);
            questions.set(reader, theirs);
            senior.put(reader, isSenior);
            hands.set(reader, NONE);
            count++;
            return reader;
        }

        boolean isFor(int reader, int question) {
            return (questions.get(reader) >> question & 1) != 0;
        }

        int holding(int code) {
            int holders = 0;
            for (int reader = 0; reader < count; reader++) {
                if (hands.get(reader) == code) holders++;
            }
            return holders;
        }

        void handSeed(int reader, int seed, int code) {
            hands.set(reader, code);
            handSeeds.set(reader, seed);
            given.set(reader, given.get(reader) | 1 << seed);
        }

        void handAnswer(int reader, int code, boolean isForAppeal) {
            hands.set(reader, code);
            handAppeals.put(reader, isForAppeal);
        }

        void emptyHand(int reader) {
            hands.set(reader, NONE);
        }

        void startAnew(int reader, int logged) {
            sinces.set(reader, 0);
            starts.set(reader, logged);
        }
    }

    private static final class Seeds {
        static final int MOST = 8;

        int count;
        final Row questions = new Row(MOST);
        final Row points = new Row(MOST);

        int enter(int question, int known) {
            int seed = count;
            questions.set(seed, question);
            points.set(seed, known);
            count++;
            return seed;
        }
    }

    /** All readings, the first one first; those of one answer follow one another. */
    private static final class Log {
        static final int MOST = 300;
        private static final int ANSWERS = Pupils.MOST * QUESTIONS;

        int count;
        final Row answers = new Row(MOST);
        final Row readers = new Row(MOST);
        final Row points = new Row(MOST);
        final Row letters = new Row(MOST);
        final Row voids = new Row(MOST);
        final Row appeals = new Row(MOST);
        /** The marks by the schemes that hold, kept up to date; NONE for what does not count. */
        final Row worths = new Row(MOST);
        final Row follows = new Row(MOST);
        final Row heads = new Row(ANSWERS);
        final Row numbers = new Row(ANSWERS);
        private final Row tails = new Row(ANSWERS);

        int enter(int answer, int reader) {
            int at = count;
            answers.set(at, answer);
            readers.set(at, reader);
            if (numbers.get(answer) == 0) heads.set(answer, at);
            else follows.set(tails.get(answer), at);
            tails.set(answer, at);
            numbers.add(answer, 1);
            count++;
            return at;
        }
    }

    /** What the readings of one answer come to, taken one by one. */
    private static final class Tally {
        int all;
        int counting;
        int appealed;
        /** How many count that were not given for an appeal. */
        private int plain;
        private int first;
        private int second;
        private int third;

        void clear() {
            all = 0;
            counting = 0;
            plain = 0;
            first = NONE;
            second = NONE;
            third = NONE;
            appealed = NONE;
        }

        void take(int worth, boolean bySenior, boolean isForAppeal) {
            all++;
            if (worth == NONE) return;
            counting++;
            if (isForAppeal) {
                if (appealed == NONE) appealed = worth;
                return;
            }
            if (plain == 0) first = worth;
            if (plain == 1) second = worth;
            if (plain > 1 && bySenior && third == NONE) third = worth;
            plain++;
        }

        /** Whatever is wanted from here on is wanted by a senior. */
        boolean isPastDue(boolean isTwice) {
            return plain >= (isTwice ? 2 : 1);
        }

        /** How many are wanted but for an appeal. */
        int lackingAsPlain(boolean isTwice, int most) {
            if (!isPastDue(isTwice)) return (isTwice ? 2 : 1) - plain;
            return isTwice && third == NONE && areApart(first, second, most) ? 1 : 0;
        }

        int outcome(boolean isTwice, int most) {
            if (lackingAsPlain(isTwice, most) > 0) return NONE;
            int found = first;
            if (isTwice) found = areApart(first, second, most) ? third : (first + second + 1) / 2;
            return appealed != NONE && areApart(found, appealed, most) ? appealed : found;
        }
    }
}
