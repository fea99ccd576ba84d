/**
 * A procession with lamps on a ground of cells, read from a tower as words. The words in
 * capitals are those of ../shared/DOC.md.
 *
 * <p>All rows are made in the constructor; no call makes an object.
 */
public final class HymnLamps {
    public static final int NONE = -1;
    public static final long NOTHING = -1000000000000000L;

    private static final int MOST_BYTES = 1600;
    private static final int MOST_STATEMENTS = 70;
    private static final int MOST_WALLS = 20;
    private static final int MOST_PERSONS = 10;
    private static final int MOST_WORDS = 8;
    private static final int MOST_HYMNS = 10;
    private static final int MOST_CELLS = 54;
    private static final int MOST_LIGHTS = 8;
    private static final int MOST_STEPS = 12;
    private static final int MOST_LETTERS = 6;
    private static final int MOST_DIGITS = 4;
    private static final int MOST_ACTS = 20;
    private static final int MOST_OPEN = 6;
    private static final int BEATS = 100;
    private static final int WAYS = 4;
    private static final int NO_STEP = 4;

    private final Tape tape;
    private final Reader reader;
    private final Ground ground;
    private final Ground draft;
    private final Teller teller;
    private final Walks walks;
    private final View view;
    private final Paths paths;
    private final Question question;
    private final Acts acts;
    private final Images images;
    private boolean painted;
    private long paintedOne;
    private long paintedTwo;

    public HymnLamps() {
        tape = new Tape();
        reader = new Reader(tape);
        ground = new Ground();
        draft = new Ground();
        teller = new Teller(reader, draft);
        walks = new Walks(ground);
        view = new View(ground, walks);
        paths = new Paths(ground, walks);
        question = new Question(reader, ground, walks, view);
        acts = new Acts();
        images = new Images(ground);
    }

    public int feed(int a, int b, int c, int d, int e) {
        if (tape.size + 20 > MOST_BYTES) {
            return NONE;
        }
        tape.put(a);
        tape.put(b);
        tape.put(c);
        tape.put(d);
        tape.put(e);
        return tape.size;
    }

    public boolean end(int n) {
        if (n < 0 || n > tape.size) {
            return false;
        }
        tape.size = n;
        return true;
    }

    public int text() {
        int statements = teller.tell();
        tape.size = 0;
        if (statements == NONE) {
            return NONE;
        }
        ground.become(draft);
        walks.retraceAll();
        acts.count = 0;
        painted = false;
        return statements;
    }

    public int fault(int what) {
        if (what == 0) {
            return reader.fault;
        }
        return what == 1 ? reader.place : NONE;
    }

    public int ground(int what) {
        switch (what) {
            case 0: return ground.wide;
            case 1: return ground.high;
            case 2: return Long.bitCount(ground.walls);
            case 3: return ground.persons;
            case 4: return ground.bearers();
            case 5: return ground.words;
            case 6: return ground.hymns;
            case 7: return sungHymns();
            case 8: return acts.count;
            default: return NONE;
        }
    }

    public int letter(int kind, int which, int k) {
        if (!within(k, MOST_LETTERS)) {
            return NONE;
        }
        if (kind == 0 && within(which, ground.persons)) {
            return letterIn(ground.personNames[which], k);
        }
        if (kind == 1 && within(which, ground.words)) {
            return letterIn(ground.wordNames[which], k);
        }
        return NONE;
    }

    public int person(int person, int what) {
        if (!within(person, ground.persons)) {
            return NONE;
        }
        long learnt = ground.learnt[person];
        switch (what) {
            case 0: return ground.toldCells[person];
            case 1: return ground.lamps[person];
            case 2: return countOf(learnt);
            case 3: return countOf(rhymeOf(learnt));
            case 4: return lostBy(person);
            default: return what >= 10 && what - 10 < countOf(learnt) ? stepIn(learnt, what - 10) : NONE;
        }
    }

    public int word(int word, int cell) {
        if (!within(word, ground.words)) {
            return NONE;
        }
        if (cell == NONE) {
            return Long.bitCount(ground.wordOnes[word] | ground.wordTwos[word]);
        }
        return within(cell, ground.cells()) ? lampIn(ground.wordOnes[word], ground.wordTwos[word], cell) : NONE;
    }

    public int hymn(int hymn, int what) {
        if (!within(hymn, ground.hymns)) {
            return NONE;
        }
        switch (what) {
            case 0: return ground.hymnWords[hymn];
            case 1: return ground.hymnBeats[hymn];
            case 2: return missingOf(hymn, NONE) == 0 ? 1 : 0;
            case 3: return missingOf(hymn, NONE);
            default: return NONE;
        }
    }

    // ---- beats

    public int where(int person, int beat) {
        return walks.cellOf(person, beat);
    }

    public int lit(int beat, int cell) {
        if (!within(beat, BEATS) || !within(cell, ground.cells())) {
            return NONE;
        }
        view.look(beat, NONE);
        return view.lampOn(cell);
    }

    public int clash(int what) {
        if (!within(what, 3)) {
            return NONE;
        }
        for (int beat = 0; beat < BEATS; beat++) {
            int pair = walks.clashIn(beat);
            if (pair != NONE) {
                return what == 0 ? beat : what == 1 ? pair / MOST_PERSONS : pair % MOST_PERSONS;
            }
        }
        return NONE;
    }

    public int clashes() {
        int count = 0;
        for (int beat = 0; beat < BEATS; beat++) {
            if (walks.clashIn(beat) != NONE) {
                count++;
            }
        }
        return count;
    }

    public int still(int person) {
        if (!within(person, ground.persons)) {
            return NONE;
        }
        for (int beat = 1; beat < BEATS; beat++) {
            if (!walks.movesIn(person, beat)) {
                return beat;
            }
        }
        return NONE;
    }

    // ---- what is read

    public int read(int beat, boolean below) {
        if (!within(beat, BEATS)) {
            return NONE;
        }
        look(beat, below);
        return view.wordRead();
    }

    public int far(int beat, int word, boolean below) {
        if (!within(beat, BEATS) || !within(word, ground.words)) {
            return NONE;
        }
        look(beat, below);
        return view.farFrom(word);
    }

    public int nearest(int beat, int what) {
        if (!within(beat, BEATS)) {
            return NONE;
        }
        view.look(beat, NONE);
        if (what == 3) {
            return view.litCells();
        }
        if (ground.words == 0) {
            return NONE;
        }
        switch (what) {
            case 0: return view.nearestWord();
            case 1: return view.farFrom(view.nearestWord());
            case 2: return view.doubtNow();
            default: return NONE;
        }
    }

    public int said(int k) {
        int count = 0;
        for (int beat = 0; beat < BEATS; beat++) {
            view.look(beat, NONE);
            int word = view.wordRead();
            if (word != NONE) {
                if (count == k) {
                    return 100 * beat + word;
                }
                count++;
            }
        }
        return k == NONE ? count : NONE;
    }

    public int between(int from, int to) {
        if (!within(from, BEATS) || !within(to, BEATS) || to < from) {
            return NONE;
        }
        int count = 0;
        for (int beat = from + 1; beat < to; beat++) {
            view.look(beat, NONE);
            if (view.wordRead() != NONE) {
                count++;
            }
        }
        return count;
    }

    public int danger(int beat) {
        if (!within(beat, BEATS) || ground.words == 0) {
            return NONE;
        }
        view.look(beat, NONE);
        int nearestNow = view.nearestWord();
        int found = NONE;
        int leastDoubt = 0;
        for (int person = 0; person < ground.persons; person++) {
            if (ground.lamps[person] != 0) {
                view.look(beat, person);
                int doubt = view.nearestWord() == nearestNow ? view.doubtNow() : -1;
                if (found == NONE || doubt < leastDoubt) {
                    found = person;
                    leastDoubt = doubt;
                }
            }
        }
        return found;
    }

    // ---- from word to word

    public int least(int beat, int word, int k) {
        if (!paths.plan(beat, word)) {
            return NONE;
        }
        if (k == NONE) {
            return paths.leastSteps();
        }
        return within(k, paths.count) ? paths.chosen[k] : NONE;
    }

    public int soon(int beat, int word) {
        return paths.plan(beat, word) ? paths.soonestBeats() : NONE;
    }

    public int way(int beat, int word, int person, int k) {
        if (k < 0 || !paths.plan(beat, word) || !paths.aim(person)) {
            return NONE;
        }
        return paths.stepOfWay(walks.cellOf(person, beat), k);
    }

    public int steps(int from, int to) {
        if (!ground.isOpen(from) || !ground.isOpen(to)) {
            return NONE;
        }
        return paths.stepsBetween(from, to);
    }

    // ---- who missed

    public boolean paint() {
        boolean fits = ground.wide > 0 && tape.size == ground.cells();
        long one = 0;
        long two = 0;
        for (int cell = 0; fits && cell < ground.cells(); cell++) {
            int lamp = tape.at(cell);
            fits = within(lamp, 3);
            if (lamp == 1) {
                one |= 1L << cell;
            } else if (lamp == 2) {
                two |= 1L << cell;
            }
        }
        tape.size = 0;
        if (fits) {
            painted = true;
            paintedOne = one;
            paintedTwo = two;
        }
        return fits;
    }

    public int missed(int beat, int k) {
        if (!painted || !within(beat, BEATS)) {
            return NONE;
        }
        int count = 0;
        for (int person = 0; person < ground.persons; person++) {
            for (int without = 1; without <= beat; without++) {
                if (explains(person, without, beat)) {
                    if (count == k) {
                        return 100 * person + without;
                    }
                    count++;
                }
            }
        }
        return k == NONE ? count : NONE;
    }

    public int alike(int person) {
        if (person == NONE) {
            int sorts = 0;
            for (int each = 0; each < ground.persons; each++) {
                if (alikeAhead(each, each) == 0) {
                    sorts++;
                }
            }
            return sorts;
        }
        return within(person, ground.persons) ? alikeAhead(person, ground.persons) : NONE;
    }

    // ---- acts

    public boolean teach(int person) {
        long taught = stepsOnTape(tape, 0, tape.size);
        tape.size = 0;
        if (taught == 0 || !within(person, ground.persons)) {
            return false;
        }
        changeSteps(person, taught);
        return true;
    }

    public boolean lamp(int person, int lamp) {
        if (!within(person, ground.persons) || !within(lamp, 3) || ground.lamps[person] == lamp) {
            return false;
        }
        acts.keep(person, ground.lamps[person], ground.learnt[person]);
        ground.lamps[person] = lamp;
        return true;
    }

    public int learn(int person, int word) {
        if (!paths.plan(0, word) || !paths.aim(person)) {
            return NONE;
        }
        long taught = paths.wayToLearn(walks.cellOf(person, 0));
        if (taught == 0 || !within(person, ground.persons)) {
            return NONE;
        }
        changeSteps(person, taught);
        return countOf(taught);
    }

    public boolean undo() {
        int last = acts.count - 1;
        if (!within(last, MOST_ACTS)) {
            return false;
        }
        acts.count = last;
        int person = acts.persons[last];
        if (within(person, ground.persons)) {
            ground.lamps[person] = acts.lamps[last];
            ground.learnt[person] = acts.learnt[last];
            walks.retrace(person);
        }
        return true;
    }

    public long ask() {
        if (ground.wide == 0) {
            tape.size = 0;
            return NOTHING;
        }
        boolean understood = question.understand();
        tape.size = 0;
        return understood ? question.answer() : NOTHING;
    }

    // ---- images

    public int image() {
        images.write();
        return images.size;
    }

    public int octet(int k) {
        return within(k, images.size) ? images.octets[k] : NONE;
    }

    public boolean on() {
        boolean fits = ground.wide > 0 && images.isOn(tape);
        if (fits) {
            images.takeOver(tape);
            walks.retraceAll();
            acts.count = 0;
        }
        tape.size = 0;
        return fits;
    }

    // ---- what several calls share

    private void look(int beat, boolean below) {
        view.look(beat, NONE);
        if (below) {
            view.turnOver();
        }
    }

    /** How FAR the HYMN's BEAT is from its WORD, with one PERSON (or NONE) as a DESERTER. */
    private int missingOf(int hymn, int deserter) {
        if (!within(hymn, ground.hymns)) {
            return NONE;
        }
        view.look(ground.hymnBeats[hymn], deserter);
        return view.farFrom(ground.hymnWords[hymn]);
    }

    private int sungHymns() {
        int count = 0;
        for (int hymn = 0; hymn < ground.hymns; hymn++) {
            if (missingOf(hymn, NONE) == 0) {
                count++;
            }
        }
        return count;
    }

    private int lostBy(int person) {
        int count = 0;
        for (int hymn = 0; hymn < ground.hymns; hymn++) {
            if (missingOf(hymn, NONE) == 0 && missingOf(hymn, person) != 0) {
                count++;
            }
        }
        return count;
    }

    /** Whether just THE PICTURE is LIT in the BEAT, if the PERSON had left out the step he made before. */
    private boolean explains(int person, int without, int beat) {
        if (!within(person, ground.persons) || !walks.movesIn(person, without)) {
            return false;
        }
        view.look(beat, person);
        view.addLamp(walks.cellWithout(person, without, beat), ground.lamps[person]);
        return view.one == paintedOne && view.two == paintedTwo;
    }

    /** How many of the first PERSONS are ALIKE this one. */
    private int alikeAhead(int person, int first) {
        int count = 0;
        if (within(person, ground.persons)) {
            long rhyme = rhymeOf(ground.learnt[person]);
            for (int other = 0; other < first && other < ground.persons; other++) {
                if (rhymeOf(ground.learnt[other]) == rhyme) {
                    count++;
                }
            }
        }
        return count;
    }

    private void changeSteps(int person, long taught) {
        if (within(person, ground.persons)) {
            acts.keep(person, ground.lamps[person], ground.learnt[person]);
            ground.learnt[person] = taught;
            walks.retrace(person);
        }
    }

    private static boolean within(int k, int count) {
        return k >= 0 && k < count;
    }

    // ---- STEPS, NAMES and lights as single numbers, so that they are copied and compared at once

    /** STEPS as a number: how many in the lowest four bits, then three bits for each; 0 when they can't be. */
    private static long stepsOnTape(Tape tape, int from, int until) {
        int count = until - from;
        if (count < 1 || count > MOST_STEPS) {
            return 0;
        }
        long packed = count;
        for (int k = 0; k < count; k++) {
            int byteThere = tape.at(from + k);
            int step = byteThere == NONE ? NONE : "neswx".indexOf((char) byteThere);
            if (step == NONE) {
                return 0;
            }
            packed |= placedStep(step, k);
        }
        return packed;
    }

    private static long placedStep(int step, int k) {
        return (long) step << (4 + 3 * k);
    }

    private static int countOf(long packed) {
        return (int) (packed & 15);
    }

    private static int stepIn(long packed, int k) {
        return (int) (packed >> (4 + 3 * k)) & 7;
    }

    /** The RHYME, packed as STEPS are. */
    private static long rhymeOf(long packed) {
        int count = countOf(packed);
        for (int length = 1; length < count; length++) {
            if (count % length == 0 && repeats(packed, length)) {
                long letters = packed & ((1L << (4 + 3 * length)) - 1);
                return letters - count + length;
            }
        }
        return packed;
    }

    private static boolean repeats(long packed, int length) {
        for (int k = length; k < countOf(packed); k++) {
            if (stepIn(packed, k) != stepIn(packed, k - length)) {
                return false;
            }
        }
        return true;
    }

    /** Letter k of a NAME, which has five bits for each letter. */
    private static int letterIn(int name, int k) {
        return (name >> (5 * k)) & 31;
    }

    /** The lamp of a cell, where one and two are the cells with lamp 1 and those with lamp 2. */
    private static int lampIn(long one, long two, int cell) {
        long bit = 1L << cell;
        return (two & bit) != 0 ? 2 : (one & bit) != 0 ? 1 : 0;
    }

    /** The bytes that were fed and are not used yet. */
    private static final class Tape {
        final byte[] bytes = new byte[MOST_BYTES];
        int size;

        /** A byte as 0 .. 255; NONE when there is none such. */
        int at(int k) {
            return k >= 0 && k < size && k < bytes.length ? bytes[k] & 255 : NONE;
        }

        void put(int number) {
            for (int shift = 24; shift >= 0; shift -= 8) {
                if (within(size, bytes.length)) {
                    bytes[size] = (byte) (number >> shift);
                    size++;
                }
            }
        }
    }

    /** Reads the tape by words, numbers and signs, and keeps the FAULT that is met first. */
    private static final class Reader {
        static final int END = 0;
        static final int WORD = 1;
        static final int NUMBER = 2;
        static final int SIGN = 3;
        /** A word or number without the blank that it needs ahead of it: nothing asks for it. */
        static final int GLUED = 4;
        /** Behind a FAULT: nothing more is read. */
        static final int BROKEN = 5;

        final Tape tape;
        int kind;
        int start;
        int stop;
        int fault;
        int place = NONE;
        /** Where the latest number or NAME that was taken stands. */
        int taken;

        Reader(Tape tape) {
            this.tape = tape;
        }

        void begin() {
            fault = 0;
            place = NONE;
            kind = SIGN;
            start = 0;
            stop = 0;
            advance();
        }

        void advance() {
            if (kind == BROKEN) {
                return;
            }
            boolean afterWordOrNumber = kind == WORD || kind == NUMBER;
            int from = stop;
            start = from;
            while (start < tape.size && isBlank(tape.at(start))) {
                start++;
            }
            kind = kindOf(tape.at(start));
            stop = start;
            while (stop < tape.size && kindOf(tape.at(stop)) == kind && (kind != SIGN || stop == start)) {
                stop++;
            }
            if (afterWordOrNumber && start == from && (kind == WORD || kind == NUMBER)) {
                kind = GLUED;
            }
        }

        void fail(int which, int at) {
            if (fault == 0) {
                fault = which;
                place = at;
            }
            kind = BROKEN;
        }

        boolean failed() {
            return fault != 0;
        }

        boolean isSign(char sign) {
            return kind == SIGN && tape.at(start) == sign;
        }

        boolean isWord(String word) {
            if (kind != WORD || stop - start != word.length()) {
                return false;
            }
            for (int k = 0; k < word.length(); k++) {
                if (tape.at(start + k) != word.charAt(k)) {
                    return false;
                }
            }
            return true;
        }

        void wantSign(char sign) {
            if (isSign(sign)) {
                advance();
            } else {
                fail(1, start);
            }
        }

        void wantWord(String word) {
            if (isWord(word)) {
                advance();
            } else {
                fail(1, start);
            }
        }

        int wantNumber(int lowest, int highest) {
            if (kind != NUMBER) {
                fail(1, start);
                return NONE;
            }
            if (stop - start > MOST_DIGITS) {
                fail(1, start + MOST_DIGITS);
                return NONE;
            }
            int number = 0;
            for (int at = start; at < stop; at++) {
                number = 10 * number + tape.at(at) - '0';
            }
            taken = start;
            if (number < lowest || number > highest) {
                fail(2, start);
                return NONE;
            }
            advance();
            return number;
        }

        /** A NAME with five bits for each letter; 0 with a FAULT. */
        int wantName() {
            if (kind != WORD || isOwnWord()) {
                fail(1, start);
                return 0;
            }
            if (stop - start > MOST_LETTERS) {
                fail(1, start + MOST_LETTERS);
                return 0;
            }
            int name = 0;
            for (int k = 0; k < stop - start; k++) {
                name |= (tape.at(start + k) - 'a' + 1) << (5 * k);
            }
            taken = start;
            advance();
            return name;
        }

        long wantSteps() {
            long packed = kind == WORD ? stepsOnTape(tape, start, stop) : 0;
            if (packed == 0) {
                fail(1, start);
            } else {
                advance();
            }
            return packed;
        }

        boolean isOwnWord() {
            return isWord("ground") || isWord("wall") || isWord("person") || isWord("at") || isWord("lamp")
                    || isWord("walks") || isWord("word") || isWord("hymn") || isWord("beat");
        }

        static boolean isBlank(int byteThere) {
            return byteThere == 10 || byteThere == 32;
        }

        static int kindOf(int byteThere) {
            if (byteThere == NONE) {
                return END;
            }
            if (byteThere >= 'a' && byteThere <= 'z') {
                return WORD;
            }
            return byteThere >= '0' && byteThere <= '9' ? NUMBER : SIGN;
        }
    }

    /** What a text told, with lamps and STEPS as they are now. wide 0: there is no ground. */
    private static final class Ground {
        /** How each of n, e, s, w, x moves across and down. */
        private static final int[] ACROSS = {0, 1, 0, -1, 0};
        private static final int[] DOWN = {-1, 0, 1, 0, 0};

        int wide;
        int high;
        long walls;
        int persons;
        final int[] personNames = new int[MOST_PERSONS];
        final int[] toldCells = new int[MOST_PERSONS];
        final int[] lamps = new int[MOST_PERSONS];
        final long[] learnt = new long[MOST_PERSONS];
        int words;
        final int[] wordNames = new int[MOST_WORDS];
        final long[] wordOnes = new long[MOST_WORDS];
        final long[] wordTwos = new long[MOST_WORDS];
        int hymns;
        final int[] hymnWords = new int[MOST_HYMNS];
        final int[] hymnBeats = new int[MOST_HYMNS];

        void clear() {
            wide = 0;
            high = 0;
            walls = 0;
            persons = 0;
            words = 0;
            hymns = 0;
        }

        void become(Ground other) {
            wide = other.wide;
            high = other.high;
            walls = other.walls;
            persons = other.persons;
            words = other.words;
            hymns = other.hymns;
            for (int k = 0; k < persons && k < MOST_PERSONS; k++) {
                personNames[k] = other.personNames[k];
                toldCells[k] = other.toldCells[k];
                lamps[k] = other.lamps[k];
                learnt[k] = other.learnt[k];
            }
            for (int k = 0; k < words && k < MOST_WORDS; k++) {
                wordNames[k] = other.wordNames[k];
                wordOnes[k] = other.wordOnes[k];
                wordTwos[k] = other.wordTwos[k];
            }
            for (int k = 0; k < hymns && k < MOST_HYMNS; k++) {
                hymnWords[k] = other.hymnWords[k];
                hymnBeats[k] = other.hymnBeats[k];
            }
        }

        int cells() {
            return wide * high;
        }

        boolean isOpen(int cell) {
            return within(cell, cells()) && (walls & 1L << cell) == 0;
        }

        boolean isTold(int cell) {
            for (int person = 0; person < persons; person++) {
                if (toldCells[person] == cell) {
                    return true;
                }
            }
            return false;
        }

        int bearers() {
            int count = 0;
            for (int person = 0; person < persons; person++) {
                if (lamps[person] != 0) {
                    count++;
                }
            }
            return count;
        }

        int wordNamed(int name) {
            for (int word = 0; word < words; word++) {
                if (wordNames[word] == name) {
                    return word;
                }
            }
            return NONE;
        }

        boolean isNamed(int name) {
            for (int person = 0; person < persons; person++) {
                if (personNames[person] == name) {
                    return true;
                }
            }
            return wordNamed(name) != NONE;
        }

        /** The cell behind a step; the same one, if the step is none. */
        int nextCell(int cell, int step) {
            if (wide <= 0 || !within(step, ACROSS.length)) {
                return cell;
            }
            int across = cell % wide + ACROSS[step];
            int down = cell / wide + DOWN[step];
            if (!within(across, wide) || !within(down, high)) {
                return cell;
            }
            int next = down * wide + across;
            return isOpen(next) ? next : cell;
        }

        /** The step that a PERSON's STEPS have for a BEAT (1 and on). */
        int stepFor(int person, int beat) {
            if (!within(person, persons) || beat < 1) {
                return NO_STEP;
            }
            int count = countOf(learnt[person]);
            return count == 0 ? NO_STEP : stepIn(learnt[person], (beat - 1) % count);
        }
    }

    /** Takes a text, statement by statement, into a draft, so that THE GROUND stays if there is a FAULT. */
    private static final class Teller {
        final Reader reader;
        final Ground draft;
        int wallStatements;

        Teller(Reader reader, Ground draft) {
            this.reader = reader;
            this.draft = draft;
        }

        /** How many STATEMENTS; NONE with a FAULT. */
        int tell() {
            draft.clear();
            wallStatements = 0;
            reader.begin();
            int count = 0;
            while (count < MOST_STATEMENTS && !reader.failed() && reader.kind != Reader.END) {
                if (count == 0) {
                    tellGround();
                } else if (reader.isWord("wall")) {
                    tellWall();
                } else if (reader.isWord("person")) {
                    tellPerson();
                } else if (reader.isWord("word")) {
                    tellWord();
                } else if (reader.isWord("hymn")) {
                    tellHymn();
                } else {
                    reader.fail(1, reader.start);
                }
                count++;
            }
            if (count == 0) {
                reader.fail(1, reader.start);
            } else if (reader.kind != Reader.END) {
                reader.fail(5, reader.start);
            }
            return reader.failed() ? NONE : count;
        }

        void tellGround() {
            reader.wantWord("ground");
            int wide = reader.wantNumber(3, 9);
            int high = reader.wantNumber(3, 6);
            if (!reader.failed()) {
                draft.wide = wide;
                draft.high = high;
            }
            reader.wantSign(';');
        }

        void tellWall() {
            if (!startsOneOf(wallStatements, MOST_WALLS)) {
                return;
            }
            wallStatements++;
            int cell = wantCell();
            if (!reader.failed()) {
                if (draft.isTold(cell)) {
                    reader.fail(2, reader.taken);
                }
                draft.walls |= 1L << cell;
            }
            reader.wantSign(';');
        }

        void tellPerson() {
            if (!startsOneOf(draft.persons, MOST_PERSONS)) {
                return;
            }
            int name = wantNewName();
            reader.wantWord("at");
            int cell = wantCell();
            if (!reader.failed() && (!draft.isOpen(cell) || draft.isTold(cell))) {
                reader.fail(2, reader.taken);
            }
            reader.wantWord("lamp");
            int lamp = reader.wantNumber(0, 2);
            reader.wantWord("walks");
            long learnt = reader.wantSteps();
            reader.wantSign(';');
            if (!reader.failed() && within(draft.persons, MOST_PERSONS)) {
                draft.personNames[draft.persons] = name;
                draft.toldCells[draft.persons] = cell;
                draft.lamps[draft.persons] = lamp;
                draft.learnt[draft.persons] = learnt;
                draft.persons++;
            }
        }

        void tellWord() {
            if (!startsOneOf(draft.words, MOST_WORDS)) {
                return;
            }
            int name = wantNewName();
            long one = 0;
            long two = 0;
            for (int lights = 0; lights < MOST_LIGHTS && (lights == 0 || reader.isWord("at")); lights++) {
                reader.wantWord("at");
                int cell = wantCell();
                if (!reader.failed() && lampIn(one, two, cell) != 0) {
                    reader.fail(2, reader.taken);
                }
                reader.wantWord("lamp");
                int lamp = reader.wantNumber(1, 2);
                if (lamp == 1) {
                    one |= 1L << cell;
                } else if (lamp == 2) {
                    two |= 1L << cell;
                }
            }
            reader.wantSign(';');
            if (!reader.failed() && within(draft.words, MOST_WORDS)) {
                draft.wordNames[draft.words] = name;
                draft.wordOnes[draft.words] = one;
                draft.wordTwos[draft.words] = two;
                draft.words++;
            }
        }

        void tellHymn() {
            if (!startsOneOf(draft.hymns, MOST_HYMNS)) {
                return;
            }
            int word = draft.wordNamed(reader.wantName());
            if (!reader.failed() && word == NONE) {
                reader.fail(3, reader.taken);
            }
            reader.wantWord("beat");
            int beat = reader.wantNumber(0, BEATS - 1);
            reader.wantSign(';');
            if (!reader.failed() && within(draft.hymns, MOST_HYMNS)) {
                draft.hymnWords[draft.hymns] = word;
                draft.hymnBeats[draft.hymns] = beat;
                draft.hymns++;
            }
        }

        /** Steps over the first word of a STATEMENT, unless there are as many of its kind as can be. */
        boolean startsOneOf(int count, int most) {
            if (count >= most) {
                reader.fail(5, reader.start);
                return false;
            }
            reader.advance();
            return true;
        }

        int wantNewName() {
            int name = reader.wantName();
            if (!reader.failed() && draft.isNamed(name)) {
                reader.fail(3, reader.taken);
            }
            return name;
        }

        /** A cell's number; reader.taken is where its second number stands then. NONE with a FAULT. */
        int wantCell() {
            int across = reader.wantNumber(0, draft.wide - 1);
            int down = reader.wantNumber(0, draft.high - 1);
            return reader.failed() ? NONE : down * draft.wide + across;
        }
    }

    /** Who is where in each BEAT. */
    private static final class Walks {
        final Ground ground;
        final int[][] cells = new int[MOST_PERSONS][BEATS];

        Walks(Ground ground) {
            this.ground = ground;
        }

        void retraceAll() {
            for (int person = 0; person < ground.persons; person++) {
                retrace(person);
            }
        }

        void retrace(int person) {
            if (!within(person, ground.persons)) {
                return;
            }
            int[] row = cells[person];
            int cell = ground.toldCells[person];
            row[0] = cell;
            for (int beat = 1; beat < BEATS; beat++) {
                cell = ground.nextCell(cell, ground.stepFor(person, beat));
                row[beat] = cell;
            }
        }

        int cellOf(int person, int beat) {
            return within(person, ground.persons) && within(beat, BEATS) ? cells[person][beat] : NONE;
        }

        boolean movesIn(int person, int beat) {
            return cellOf(person, beat) != cellOf(person, beat - 1);
        }

        /** Where he would be in a BEAT, if he had made no step in one not behind it. */
        int cellWithout(int person, int without, int beat) {
            int cell = cellOf(person, without - 1);
            for (int next = without + 1; next <= beat && next < BEATS; next++) {
                cell = ground.nextCell(cell, ground.stepFor(person, next));
            }
            return cell;
        }

        /** The first CLASH in a BEAT: MOST_PERSONS times the lesser PERSON, and the other one; or NONE. */
        int clashIn(int beat) {
            for (int one = 0; one < ground.persons; one++) {
                for (int other = one + 1; other < ground.persons; other++) {
                    if (areInClash(one, other, beat)) {
                        return one * MOST_PERSONS + other;
                    }
                }
            }
            return NONE;
        }

        boolean areInClash(int one, int other, int beat) {
            int oneNow = cellOf(one, beat);
            int otherNow = cellOf(other, beat);
            if (oneNow == otherNow) {
                return true;
            }
            return beat > 0 && oneNow == cellOf(other, beat - 1) && otherNow == cellOf(one, beat - 1);
        }
    }

    /** What is LIT in the BEAT looked at: the cells with lamp 1 and those with lamp 2, a bit for each. */
    private static final class View {
        final Ground ground;
        final Walks walks;
        long one;
        long two;

        View(Ground ground, Walks walks) {
            this.ground = ground;
            this.walks = walks;
        }

        /** Looks from the tower, with one PERSON (or NONE) as a DESERTER. */
        void look(int beat, int deserter) {
            one = 0;
            two = 0;
            for (int person = 0; person < ground.persons; person++) {
                if (person != deserter) {
                    addLamp(walks.cellOf(person, beat), ground.lamps[person]);
                }
            }
        }

        void addLamp(int cell, int lamp) {
            if (!within(cell, MOST_CELLS)) {
                return;
            }
            long bit = 1L << cell;
            if (lamp == 2) {
                two |= bit;
            } else if (lamp == 1) {
                one |= bit;
            }
            one &= ~two;
        }

        void turnOver() {
            one = turned(one);
            two = turned(two);
        }

        long turned(long lights) {
            long row = (1L << ground.wide) - 1;
            long result = 0;
            for (int down = 0; down < ground.high; down++) {
                long cells = lights >>> (down * ground.wide) & row;
                result |= cells << ((ground.high - 1 - down) * ground.wide);
            }
            return result;
        }

        int lampOn(int cell) {
            return within(cell, ground.cells()) ? lampIn(one, two, cell) : 0;
        }

        int litCells() {
            return Long.bitCount(one | two);
        }

        int farFrom(int word) {
            if (!within(word, ground.words)) {
                return NONE;
            }
            return Long.bitCount((one ^ ground.wordOnes[word]) | (two ^ ground.wordTwos[word]));
        }

        int wordRead() {
            for (int word = 0; word < ground.words; word++) {
                if (farFrom(word) == 0) {
                    return word;
                }
            }
            return NONE;
        }

        int nearestWord() {
            int found = NONE;
            for (int word = 0; word < ground.words; word++) {
                if (found == NONE || farFrom(word) < farFrom(found)) {
                    found = word;
                }
            }
            return found;
        }

        int doubtNow() {
            int first = nearestWord();
            int next = NONE;
            for (int word = 0; word < ground.words; word++) {
                if (word != first && (next == NONE || farFrom(word) < farFrom(next))) {
                    next = word;
                }
            }
            return next == NONE ? 99 : farFrom(next) - farFrom(first);
        }
    }

    /** Steps by cells without walls, and who is to go where TO A WORD. */
    private static final class Paths {
        /** More than all steps of a LEAST together can be. */
        private static final int TOO_FAR = 10000;

        final Ground ground;
        final Walks walks;
        final int[] distances = new int[MOST_CELLS];
        final int[] queue = new int[MOST_CELLS];
        int count;
        /** PERSONS with a lamp, and the cells of the WORD, both from the least on. */
        final int[] goers = new int[MOST_LIGHTS];
        final int[] goals = new int[MOST_LIGHTS];
        final int[][] costs = new int[MOST_LIGHTS][MOST_LIGHTS];
        /** For each set of goals that the first goers have taken: what the others need at the best. */
        final int[] leastRest = new int[1 << MOST_LIGHTS];
        final int[] soonestRest = new int[1 << MOST_LIGHTS];
        final int[] chosen = new int[MOST_LIGHTS];

        Paths(Ground ground, Walks walks) {
            this.ground = ground;
            this.walks = walks;
        }

        int stepsBetween(int from, int to) {
            spread(from);
            return within(to, MOST_CELLS) && distances[to] < TOO_FAR ? distances[to] : NONE;
        }

        /** Measures how far all cells are from this one. */
        void spread(int from) {
            for (int cell = 0; cell < MOST_CELLS; cell++) {
                distances[cell] = TOO_FAR;
            }
            if (!ground.isOpen(from)) {
                return;
            }
            distances[from] = 0;
            queue[0] = from;
            int size = 1;
            for (int k = 0; k < size && k < MOST_CELLS; k++) {
                for (int step = 0; step < WAYS; step++) {
                    int next = ground.nextCell(queue[k], step);
                    if (within(next, MOST_CELLS) && distances[next] == TOO_FAR && size < MOST_CELLS) {
                        distances[next] = distances[queue[k]] + 1;
                        queue[size] = next;
                        size++;
                    }
                }
            }
        }

        /** Finds the LEAST and SOON; false when there is none such. */
        boolean plan(int beat, int word) {
            if (!within(beat, BEATS) || !within(word, ground.words) || !gather(word)) {
                return false;
            }
            for (int goer = 0; goer < count; goer++) {
                int person = goers[goer];
                spread(walks.cellOf(person, beat));
                for (int goal = 0; goal < count; goal++) {
                    int lamp = lampIn(ground.wordOnes[word], ground.wordTwos[word], goals[goal]);
                    costs[goer][goal] = lamp == ground.lamps[person] ? distances[goals[goal]] : TOO_FAR;
                }
            }
            weigh();
            if (leastRest[0] >= TOO_FAR) {
                return false;
            }
            choose();
            return true;
        }

        /** Lists goers and goals; false when there are not as many of both. */
        boolean gather(int word) {
            long lights = ground.wordOnes[word] | ground.wordTwos[word];
            count = Long.bitCount(lights);
            if (count != ground.bearers() || count > MOST_LIGHTS) {
                return false;
            }
            int listed = 0;
            for (int person = 0; person < ground.persons && listed < count; person++) {
                if (ground.lamps[person] != 0) {
                    goers[listed] = person;
                    listed++;
                }
            }
            listed = 0;
            for (int cell = 0; cell < MOST_CELLS && listed < count; cell++) {
                if ((lights & 1L << cell) != 0) {
                    goals[listed] = cell;
                    listed++;
                }
            }
            return true;
        }

        /** From the full set of goals down to the empty one, so that each larger set is known before. */
        void weigh() {
            int all = (1 << count) - 1;
            leastRest[all] = 0;
            soonestRest[all] = 0;
            for (int set = all - 1; set >= 0; set--) {
                int goer = Integer.bitCount(set);
                int least = TOO_FAR;
                int soonest = TOO_FAR;
                for (int goal = 0; goal < count; goal++) {
                    int larger = set | 1 << goal;
                    if (larger != set) {
                        least = Math.min(least, costs[goer][goal] + leastRest[larger]);
                        soonest = Math.min(soonest, Math.max(costs[goer][goal], soonestRest[larger]));
                    }
                }
                leastRest[set] = least;
                soonestRest[set] = soonest;
            }
        }

        void choose() {
            int set = 0;
            for (int goer = 0; goer < count; goer++) {
                boolean found = false;
                for (int goal = 0; goal < count && !found; goal++) {
                    int larger = set | 1 << goal;
                    if (larger != set && costs[goer][goal] + leastRest[larger] == leastRest[set]) {
                        chosen[goer] = goals[goal];
                        set = larger;
                        found = true;
                    }
                }
            }
        }

        int leastSteps() {
            return leastRest[0];
        }

        int soonestBeats() {
            return soonestRest[0];
        }

        /** Measures from the cell that the plan has for a PERSON; false when it has none. */
        boolean aim(int person) {
            for (int goer = 0; goer < count; goer++) {
                if (goers[goer] == person) {
                    spread(chosen[goer]);
                    return true;
                }
            }
            return false;
        }

        /** The first step that brings nearer to the cell aimed at; NONE in it. */
        int nearer(int cell) {
            for (int step = 0; step < WAYS; step++) {
                int next = ground.nextCell(cell, step);
                if (within(cell, MOST_CELLS) && within(next, MOST_CELLS) && distances[next] < distances[cell]) {
                    return step;
                }
            }
            return NONE;
        }

        int stepOfWay(int from, int k) {
            int cell = from;
            for (int done = 0; done < k && done < MOST_CELLS; done++) {
                cell = ground.nextCell(cell, nearer(cell));
            }
            return nearer(cell);
        }

        /** The WAY from a cell with x behind it, packed as STEPS are; 0 when they can't be. */
        long wayToLearn(int from) {
            if (!within(from, MOST_CELLS)) {
                return 0;
            }
            int length = Math.max(distances[from], soonestBeats());
            if (length < 1 || length > MOST_STEPS) {
                return 0;
            }
            long packed = length;
            int cell = from;
            for (int k = 0; k < length; k++) {
                int step = nearer(cell);
                packed |= placedStep(step == NONE ? NO_STEP : step, k);
                cell = ground.nextCell(cell, step);
            }
            return packed;
        }
    }

    /** A QUESTION, turned into a row of codes that works upwards on a pile of values, and asked of each BEAT. */
    private static final class Question {
        private static final int BEAT = -1;
        private static final int CLASH = -2;
        private static final int LIT = -3;
        private static final int READ = -4;
        private static final int AT = -5;
        private static final int FAR = -6;
        private static final int GLOW = -7;
        private static final int NOT = -8;
        /** From here down: codes that take two values. */
        private static final int MIN = -9;
        private static final int MAX = -10;
        private static final int PLUS = -11;
        private static final int MINUS = -12;
        private static final int TIMES = -13;
        private static final int OVER = -14;
        private static final int LESS = -15;
        private static final int MORE = -16;
        private static final int SAME = -17;
        private static final int AND = -18;
        private static final int OR = -19;
        private static final long MOST = 1000000;
        /** What is asked; those up to OFTEN ask a TEST, the others a SUM. */
        private static final int UNKNOWN = 0;
        private static final int FIRST = 1;
        private static final int LAST = 2;
        private static final int OFTEN = 3;
        private static final int TOTAL = 4;
        private static final int GREATEST = 5;
        private static final int SMALLEST = 6;

        final Reader reader;
        final Ground ground;
        final Walks walks;
        final View view;
        /** A number is its own code; each part of the text makes one code at the most. */
        final int[] codes = new int[MOST_BYTES];
        final long[] pile = new long[64];
        int size;
        int height;
        int open;
        int asked;

        Question(Reader reader, Ground ground, Walks walks, View view) {
            this.reader = reader;
            this.ground = ground;
            this.walks = walks;
            this.view = view;
        }

        /** Reads the tape; false with a FAULT. */
        boolean understand() {
            size = 0;
            open = 0;
            reader.begin();
            asked = firstWord();
            if (asked == UNKNOWN) {
                reader.fail(1, reader.start);
            }
            reader.advance();
            if (asked <= OFTEN) {
                takeTest();
            } else {
                takeSum();
            }
            if (reader.kind != Reader.END) {
                reader.fail(1, reader.start);
            }
            return !reader.failed();
        }

        int firstWord() {
            if (reader.isWord("first")) {
                return FIRST;
            }
            if (reader.isWord("last")) {
                return LAST;
            }
            if (reader.isWord("often")) {
                return OFTEN;
            }
            if (reader.isWord("total")) {
                return TOTAL;
            }
            if (reader.isWord("most")) {
                return GREATEST;
            }
            return reader.isWord("least") ? SMALLEST : UNKNOWN;
        }

        void emit(int code) {
            if (within(size, codes.length)) {
                codes[size] = code;
                size++;
            }
        }

        /** Counts what is open, which keeps the depth of the reading low, too. */
        boolean opens() {
            if (open >= MOST_OPEN) {
                reader.fail(4, reader.start);
                return false;
            }
            open++;
            reader.advance();
            return true;
        }

        private void takeTest() {
            takeFact();
            boolean orWaits = false;
            for (int n = 0; n < MOST_BYTES && (reader.isWord("and") || reader.isWord("or")); n++) {
                boolean both = reader.isWord("and");
                reader.advance();
                if (!both && orWaits) {
                    emit(OR);
                }
                takeFact();
                if (both) {
                    emit(AND);
                } else {
                    orWaits = true;
                }
            }
            if (orWaits) {
                emit(OR);
            }
        }

        private void takeFact() {
            if (reader.isWord("not")) {
                if (opens()) {
                    takeFact();
                    open--;
                    emit(NOT);
                }
            } else if (reader.isSign('[')) {
                if (opens()) {
                    takeTest();
                    reader.wantSign(']');
                    open--;
                }
            } else if (reader.isWord("all")) {
                reader.advance();
                emit(1);
            } else {
                takeSum();
                int sign = comparison();
                reader.advance();
                takeSum();
                emit(sign);
            }
        }

        int comparison() {
            if (reader.isSign('<')) {
                return LESS;
            }
            if (reader.isSign('>')) {
                return MORE;
            }
            if (!reader.isSign('=')) {
                reader.fail(1, reader.start);
            }
            return SAME;
        }

        private void takeSum() {
            takePart();
            int waits = 0;
            for (int n = 0; n < MOST_BYTES && calculation() != 0; n++) {
                int sign = calculation();
                boolean atOnce = sign == TIMES || sign == OVER;
                reader.advance();
                if (!atOnce) {
                    if (waits != 0) {
                        emit(waits);
                    }
                    waits = sign;
                }
                takePart();
                if (atOnce) {
                    emit(sign);
                }
            }
            if (waits != 0) {
                emit(waits);
            }
        }

        int calculation() {
            if (reader.isSign('+')) {
                return PLUS;
            }
            if (reader.isSign('-')) {
                return MINUS;
            }
            if (reader.isSign('*')) {
                return TIMES;
            }
            return reader.isSign('/') ? OVER : 0;
        }

        private void takePart() {
            if (reader.kind == Reader.NUMBER) {
                emit(reader.wantNumber(0, 9999));
            } else if (reader.isSign('(')) {
                if (opens()) {
                    takeSum();
                    reader.wantSign(')');
                    open--;
                }
            } else if (partOfBeat() != 0) {
                emit(partOfBeat());
                reader.advance();
            } else if (partOfNumber() != 0) {
                int code = partOfNumber();
                if (opens()) {
                    takePart();
                    open--;
                    emit(code);
                }
            } else if (reader.isWord("min") || reader.isWord("max")) {
                int code = reader.isWord("min") ? MIN : MAX;
                reader.advance();
                takePair();
                emit(code);
            } else {
                reader.fail(1, reader.start);
            }
        }

        private void takePair() {
            if (!reader.isSign('(')) {
                reader.fail(1, reader.start);
            } else if (opens()) {
                takeSum();
                reader.wantSign(',');
                takeSum();
                reader.wantSign(')');
                open--;
            }
        }

        int partOfBeat() {
            if (reader.isWord("beat")) {
                return BEAT;
            }
            if (reader.isWord("clash")) {
                return CLASH;
            }
            if (reader.isWord("lit")) {
                return LIT;
            }
            return reader.isWord("read") ? READ : 0;
        }

        int partOfNumber() {
            if (reader.isWord("at")) {
                return AT;
            }
            if (reader.isWord("far")) {
                return FAR;
            }
            return reader.isWord("glow") ? GLOW : 0;
        }

        /** The answer of all BEATS to the QUESTION that was understood. */
        long answer() {
            int first = NONE;
            int last = NONE;
            int often = 0;
            long total = 0;
            long most = valueIn(0);
            long least = most;
            for (int beat = 0; beat < BEATS; beat++) {
                long value = valueIn(beat);
                if (value != 0) {
                    first = often == 0 ? beat : first;
                    last = beat;
                    often++;
                }
                total += value;
                most = Math.max(most, value);
                least = Math.min(least, value);
            }
            switch (asked) {
                case FIRST: return first;
                case LAST: return last;
                case OFTEN: return often;
                case TOTAL: return total;
                case GREATEST: return most;
                default: return least;
            }
        }

        long valueIn(int beat) {
            view.look(beat, NONE);
            height = 0;
            for (int k = 0; k < size && k < codes.length; k++) {
                int code = codes[k];
                if (code >= 0) {
                    push(code);
                } else if (code <= MIN) {
                    long right = pop();
                    long left = pop();
                    push(joined(code, left, right));
                } else if (code <= AT) {
                    push(found(code, pop(), beat));
                } else {
                    push(seen(code, beat));
                }
            }
            return pop();
        }

        void push(long value) {
            if (within(height, pile.length)) {
                pile[height] = value;
                height++;
            }
        }

        long pop() {
            if (!within(height - 1, pile.length)) {
                return 0;
            }
            height--;
            return pile[height];
        }

        long seen(int code, int beat) {
            switch (code) {
                case BEAT: return beat;
                case CLASH: return walks.clashIn(beat) == NONE ? 0 : 1;
                case LIT: return view.litCells();
                default: return view.wordRead() + 1;
            }
        }

        long found(int code, long value, int beat) {
            int number = (int) Math.max(NONE, Math.min(value, MOST));
            switch (code) {
                case AT: return within(number, ground.persons) ? walks.cellOf(number, beat) : 99;
                case FAR: return within(number, ground.words) ? view.farFrom(number) : 99;
                case GLOW: return view.lampOn(number);
                default: return value == 0 ? 1 : 0;
            }
        }

        static long joined(int code, long left, long right) {
            switch (code) {
                case MIN: return Math.min(left, right);
                case MAX: return Math.max(left, right);
                case PLUS: return held(left + right);
                case MINUS: return held(left - right);
                case TIMES: return held(left * right);
                case OVER: return right == 0 ? 0 : Math.floorDiv(left, right);
                case LESS: return left < right ? 1 : 0;
                case MORE: return left > right ? 1 : 0;
                case SAME: return left == right ? 1 : 0;
                case AND: return left != 0 && right != 0 ? 1 : 0;
                default: return left != 0 || right != 0 ? 1 : 0;
            }
        }

        static long held(long value) {
            return Math.max(-MOST, Math.min(MOST, value));
        }
    }

    /** What PERSONS had ahead of each of the latest ACTS, the oldest first. */
    private static final class Acts {
        final int[] persons = new int[MOST_ACTS];
        final int[] lamps = new int[MOST_ACTS];
        final long[] learnt = new long[MOST_ACTS];
        int count;

        void keep(int person, int lamp, long steps) {
            if (count >= MOST_ACTS) {
                forgetOldest();
            }
            if (within(count, MOST_ACTS)) {
                persons[count] = person;
                lamps[count] = lamp;
                learnt[count] = steps;
                count++;
            }
        }

        void forgetOldest() {
            for (int k = 1; k < MOST_ACTS; k++) {
                persons[k - 1] = persons[k];
                lamps[k - 1] = lamps[k];
                learnt[k - 1] = learnt[k];
            }
            count = MOST_ACTS - 1;
        }
    }

    /** The latest IMAGE that was written, and the way back from one. */
    private static final class Images {
        final Ground ground;
        final int[] octets = new int[MOST_PERSONS * (2 + MOST_STEPS) + 1];
        int size;

        Images(Ground ground) {
            this.ground = ground;
        }

        void write() {
            size = 0;
            int sum = 109;
            for (int person = 0; person < ground.persons; person++) {
                long learnt = ground.learnt[person];
                int count = countOf(learnt);
                sum = put(ground.lamps[person], sum);
                sum = put(count, sum);
                for (int k = 0; k < count; k++) {
                    sum = put(stepIn(learnt, k), sum);
                }
            }
            put(sum, 0);
        }

        /** Puts a byte behind the others, and gives the sum with it. */
        int put(int octet, int sum) {
            if (within(size, octets.length)) {
                octets[size] = octet;
                size++;
            }
            return summed(sum, octet);
        }

        static int summed(int sum, int octet) {
            return (3 * sum + octet) % 251;
        }

        boolean isOn(Tape tape) {
            int at = 0;
            for (int person = 0; person < ground.persons; person++) {
                int count = tape.at(at + 1);
                if (!within(tape.at(at), 3) || count < 1 || count > MOST_STEPS) {
                    return false;
                }
                for (int k = 0; k < count; k++) {
                    if (!within(tape.at(at + 2 + k), NO_STEP + 1)) {
                        return false;
                    }
                }
                at += 2 + count;
            }
            int sum = 109;
            for (int k = 0; k < at; k++) {
                sum = summed(sum, tape.at(k));
            }
            return tape.size == at + 1 && tape.at(at) == sum;
        }

        /** Takes lamps and STEPS from a tape that is AN IMAGE. */
        void takeOver(Tape tape) {
            int at = 0;
            for (int person = 0; person < ground.persons; person++) {
                int count = tape.at(at + 1);
                long learnt = count;
                for (int k = 0; k < count; k++) {
                    learnt |= placedStep(tape.at(at + 2 + k), k);
                }
                ground.lamps[person] = tape.at(at);
                ground.learnt[person] = learnt;
                at += 2 + count;
            }
        }
    }
}
