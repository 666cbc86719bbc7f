import java.util.NoSuchElementException;

/** A town that keeps time by one man's hiccups; ../shared/DOC.md tells what each call answers. */
public final class HiccupTown {
    public static final int NONE = -1;

    private static final int TAPE_MOST = 940;
    private static final int FED_AT_ONCE = 20;
    private static final int TOWN_MOST = 900;
    private static final int BOOK_MOST = 400;
    private static final int SENTENCE_MOST = 200;

    private static final int NO_TOKEN = 1;
    private static final int BAD_NUMBER = 2;
    private static final int BAD_NAME = 3;
    private static final int TOO_MANY = 4;

    private static final int COUSINS = 0;
    private static final int PERSONS = 1;
    private static final int WORKS = 2;
    private static final int THINGS = 3;
    private static final int SORTS = 4;
    private static final int[] MOST_OF_SORT = {4, 7, 6, 5};
    private static final int NAMES_A_SORT = 7;

    private static final int FRIGHT = 0;
    private static final int CURE = 1;
    private static final int FLY = 2;
    private static final int RELIEVE = 3;
    private static final int LEAVE = 4;
    private static final int JOIN = 5;
    private static final int SECONDS = 6;

    private static final int ALL_SECONDS = 600;
    private static final int SECONDS_AT_ONCE = 60;
    private static final int LONGEST_WAIT = 99;
    private static final int ODDS_SECONDS = 60;
    private static final int VOTE_ROUNDS = 10;
    private static final int IMAGES = 2;
    private static final int TAG_MOST = 21;

    private final Tape tape = new Tape();
    private final TownReader townReader = new TownReader();
    private final Scene scene = new Scene();
    private final Scene[] images = new Scene[IMAGES];
    private final Past past = new Past();
    private final Moment before = new Moment();
    private final Moment trial = new Moment();
    private final Clues clues = new Clues();
    private final Rows beatRows = new Rows();
    private final Book latestBook = new Book();
    private final Sentence draft = new Sentence();
    private final byte[] tagBytes = new byte[TAG_MOST];
    private int tagLength;
    private int faultKind;
    private int votes = NONE;

    public HiccupTown() {
        for (int i = 0; i < IMAGES; i++) {
            images[i] = new Scene();
        }
    }

    public int feed(int a, int b, int c, int d, int e) {
        if (tape.length + FED_AT_ONCE > TAPE_MOST) {
            return NONE;
        }
        tape.append(a);
        tape.append(b);
        tape.append(c);
        tape.append(d);
        tape.append(e);
        return tape.length;
    }

    public boolean end(int n) {
        if (n < 0 || n > tape.length) {
            return false;
        }
        tape.length = n;
        return true;
    }

    public int town() {
        tape.beginText(TOWN_MOST);
        int lines = townReader.readTown(tape);
        if (endText()) {
            return -1 - tape.faultPlace;
        }
        scene.begin(townReader.plan);
        past.forget();
        return lines;
    }

    public int fault() {
        return faultKind;
    }

    public int person(int p, int what) throws NoSuchElementException {
        if (!scene.plan.has(PERSONS, p)) {
            throw new NoSuchElementException("no such person");
        }
        switch (what) {
            case 0: return scene.moment.place[p];
            case 1: return scene.plan.personPace[p];
            case 2: return scene.moment.isOut(p) ? 1 : 0;
            case 3: return scene.moment.steps[p];
            case 4: return scene.moment.isBusy(scene.plan, p) ? 1 : 0;
            default: throw new NoSuchElementException("nothing such is told of a person");
        }
    }

    public int work(int w, int what) {
        if (!scene.plan.has(WORKS, w)) {
            return NONE;
        }
        switch (what) {
            case 0: return scene.plan.workPlace[w];
            case 1: return scene.plan.workBeats[w];
            case 2: return scene.moment.left[w];
            case 3: return scene.moment.howWorkIs(scene.plan, w);
            case 4: return scene.plan.workBehind[w];
            default: return NONE;
        }
    }

    public int gap(int c) {
        return scene.plan.gapOf(c);
    }

    public int now(int what) {
        switch (what) {
            case 0: return scene.moment.second;
            case 1: return scene.moment.beater;
            case 2: return scene.moment.waits;
            case 3: return scene.moment.stands ? 1 : 0;
            case 4: return scene.moment.beats;
            case 5: return scene.moment.out;
            case 6: return scene.moment.doneWorks(scene.plan);
            case 7: return scene.moment.openWorks(scene.plan);
            default: return NONE;
        }
    }

    public int fright() {
        return actKept(FRIGHT, 0);
    }

    public int cure() {
        return actKept(CURE, 0);
    }

    public int fly() {
        return actKept(FLY, 0);
    }

    public int relieve(int c) {
        return scene.plan.mayBeat(c) ? actKept(RELIEVE, c) : NONE;
    }

    public int leave(int p) {
        return scene.plan.has(PERSONS, p) ? actKept(LEAVE, p) : NONE;
    }

    public int join(int p) {
        return scene.plan.has(PERSONS, p) ? actKept(JOIN, p) : NONE;
    }

    public int seconds(int n) {
        if (n < 1 || n > SECONDS_AT_ONCE) {
            return NONE;
        }
        before.copyFrom(scene.moment);
        int passed = Math.min(n, scene.moment.secondsLeft());
        scene.moment.act(scene.plan, SECONDS, passed);
        keepBefore(passed > 0);
        return passed;
    }

    public int undo() {
        return past.takeBack(scene.moment);
    }

    public int at(int p, int k) {
        if (!scene.plan.has(PERSONS, p) || k < 0 || k > 99) {
            return NONE;
        }
        return scene.moment.placeBehind(scene.plan, p, k);
    }

    public int meet(int p, int q) {
        if (!scene.plan.has(PERSONS, p) || !scene.plan.has(PERSONS, q)) {
            return NONE;
        }
        // Behind as many BEATS as the ring has PLACES everybody is where he is now.
        for (int k = 0; k < scene.plan.ring; k++) {
            if (scene.moment.placeBehind(scene.plan, p, k) == scene.moment.placeBehind(scene.plan, q, k)) {
                return k;
            }
        }
        return NONE;
    }

    public int when(int w) {
        if (!scene.plan.has(WORKS, w)) {
            return NONE;
        }
        trial.copyFrom(scene.moment);
        return trial.secondsTillDone(scene.plan, w);
    }

    public int once(int c, int d) {
        if (!scene.plan.mayBeat(c) || !scene.plan.mayBeat(d)) {
            return NONE;
        }
        int first = scene.plan.gapOf(c);
        int second = scene.plan.gapOf(d);
        for (int times = 1; times <= second; times++) {
            if (remainder(first * times, second) == 0) {
                return first * times;
            }
        }
        return NONE;
    }

    public int stood() {
        int numbers = clues.judge(tape, scene.plan);
        tape.length = 0;
        return numbers;
    }

    public int stoodLeast() {
        return clues.least;
    }

    public int stoodMost() {
        return clues.greatest;
    }

    public int next() {
        return clues.nextThing;
    }

    public int rows(int n, int k) {
        if (n < 1 || n > Rows.MOST_SECONDS || k < 1 || k > Rows.MOST_BEATS) {
            return NONE;
        }
        return beatRows.countFor(scene.plan, n, k);
    }

    public int rowAt(int i) {
        return i < 0 || i >= beatRows.firstLength ? NONE : beatRows.first[i];
    }

    public int swift(int w) {
        if (!scene.plan.has(WORKS, w) || scene.moment.isDone(w)) {
            return NONE;
        }
        int best = NONE;
        int fewest = ALL_SECONDS + 1;
        for (int c = 0; c < scene.plan.beaters(); c++) {
            trial.copyFrom(scene.moment);
            trial.act(scene.plan, RELIEVE, c);
            int seconds = trial.secondsTillDone(scene.plan, w);
            if (seconds != NONE && seconds < fewest) {
                fewest = seconds;
                best = c;
            }
        }
        return best;
    }

    public int joins(int p) {
        if (!scene.plan.has(PERSONS, p) || !scene.moment.isOut(p)) {
            return NONE;
        }
        trial.copyFrom(scene.moment);
        return trial.secondsTillFree(scene.plan, p);
    }

    public int vote() {
        votes = scene.moment.out;
        for (int round = 1; round < VOTE_ROUNDS; round++) {
            int changed = scene.moment.votesBehindRound(scene.plan, votes);
            if (changed == votes) {
                return round;
            }
            votes = changed;
        }
        votes = scene.moment.votesBehindRound(scene.plan, votes);
        return VOTE_ROUNDS;
    }

    public int voted() {
        return votes;
    }

    public int tag(int p) {
        if (!scene.plan.has(PERSONS, p)) {
            return NONE;
        }
        tagLength = 0;
        tagName(scene.plan.nameOf(PERSONS, p));
        tagText(" at ");
        tagNumber(scene.moment.place[p]);
        if (scene.moment.isOut(p)) {
            tagText(" out");
        } else {
            tagText(scene.moment.stands ? " in air" : " in step");
        }
        return tagLength;
    }

    public int byteAt(int i) {
        return i < 0 || i >= tagLength ? NONE : tagBytes[i];
    }

    public int drawn(int n, int seed) {
        if (n < 1 || n > SECONDS_AT_ONCE) {
            return NONE;
        }
        before.copyFrom(scene.moment);
        int passed = scene.moment.passDrawn(scene.plan, n, seed);
        keepBefore(passed > 0);
        return passed;
    }

    public int odds(int w, int n, int seed) {
        if (!scene.plan.has(WORKS, w) || n < 1 || n > 30) {
            return NONE;
        }
        int done = 0;
        for (int i = 0; i < n; i++) {
            trial.copyFrom(scene.moment);
            trial.passDrawn(scene.plan, ODDS_SECONDS, seed + i);
            if (trial.isDone(w)) {
                done++;
            }
        }
        return done;
    }

    public int book(int lives) {
        if (lives != 0 && lives != 1) {
            return -1000;
        }
        tape.beginText(BOOK_MOST);
        latestBook.readBook(tape, scene.plan);
        if (endText()) {
            return -2 - tape.faultPlace;
        }
        before.copyFrom(scene.moment);
        int wrong = latestBook.live(scene.plan, scene.moment);
        if (lives == 0) {
            scene.moment.copyFrom(before);
        } else {
            keepBefore(latestBook.rightLines > 0);
        }
        return wrong;
    }

    public int told(int what) {
        return latestBook.tell(what);
    }

    public int sentence() {
        tape.beginText(SENTENCE_MOST);
        draft.readSentence(tape, scene.plan);
        if (endText()) {
            return -1 - tape.faultPlace;
        }
        scene.sentence.copyFrom(draft);
        return scene.sentence.ones;
    }

    public int said(int k) {
        if (!scene.sentence.isTold()) {
            return NONE;
        }
        int found = 0;
        for (int p = 0; p < scene.plan.counts[PERSONS]; p++) {
            if (scene.sentence.holds(scene.plan, scene.moment, p)) {
                if (found == k) {
                    return p;
                }
                found++;
            }
        }
        return k == NONE ? found : NONE;
    }

    public boolean image(int k) {
        Scene place = imageAt(k);
        if (place == null) {
            return false;
        }
        place.copyFrom(scene);
        place.kept = true;
        return true;
    }

    public boolean restore(int k) {
        Scene place = imageAt(k);
        if (place == null || !place.kept) {
            return false;
        }
        scene.copyFrom(place);
        past.forget();
        return true;
    }

    public int count(int what) {
        switch (what) {
            case 0: return scene.plan.ring;
            case 1: return scene.plan.counts[COUSINS];
            case 2: return scene.plan.counts[PERSONS];
            case 3: return scene.plan.counts[WORKS];
            case 4: return scene.plan.counts[THINGS];
            case 5: return tape.length;
            default: return NONE;
        }
    }

    /** The text was read: the tape is empty, its FAULT is the latest; whether there was one. */
    private boolean endText() {
        tape.length = 0;
        faultKind = tape.fault;
        return tape.fault != 0;
    }

    /** Where image k is kept; null: no such one. */
    private Scene imageAt(int k) {
        return k < 0 || k >= IMAGES ? null : images[k];
    }

    private int actKept(int act, int whom) {
        before.copyFrom(scene.moment);
        int why = scene.moment.act(scene.plan, act, whom);
        keepBefore(why == 0);
        return why;
    }

    private void keepBefore(boolean done) {
        if (done) {
            past.keep(before);
        }
    }

    private void tagByte(int letter) {
        if (tagLength < TAG_MOST) {
            tagBytes[tagLength] = (byte) letter;
            tagLength++;
        }
    }

    private void tagName(long name) {
        for (int shift = 8 * (Word.LONGEST - 1); shift >= 0; shift -= 8) {
            int letter = (int) (name >>> shift) & 255;
            if (letter != 0) {
                tagByte(letter);
            }
        }
    }

    private void tagText(String text) {
        for (int i = 0; i < text.length(); i++) {
            tagByte(text.charAt(i));
        }
    }

    private void tagNumber(int number) {
        if (number >= 10) {
            tagByte('0' + number / 10);
        }
        tagByte('0' + number % 10);
    }

    private static boolean hasBit(int bits, int i) {
        return (bits >>> i & 1) == 1;
    }

    /** What a number that is not below 0 leaves; it is left whole if there is nothing to divide by. */
    private static int remainder(int number, int divisor) {
        return divisor <= 0 ? number : number % divisor;
    }

    /** What a TOKEN may be; a word that is written here can be nobody's NAME. */
    private enum Word {
        END(""), BAD(""), NAME(""), DIGITS(""),
        SEMICOLON(";"), LESS("<"), EQUAL("="), GREATER(">"), OPENING("("), CLOSING(")"),
        RING("ring"), GAP("gap"), COUSIN("cousin"), PERSON("person"),
        WORK("work"), AFTER("after"), THING("thing"), OUT("out"),
        FRIGHT("fright"), CURE("cure"), FLY("fly"), RELIEVE("relieve"), MAN("man"),
        LEAVES("leaves"), JOINS("joins"), SECOND("second"),
        OR("or"), AND("and"), NOT("not"), BY("by"), WITH("with"), BUSY("busy"),
        PLACE("place"), PACE("pace"), STEPS("steps"), NUMBER("number");

        private static final int LONGEST = 7;
        private static final Word[] ALL = values();

        private final long key;

        Word(String text) {
            this.key = keyOf(text);
        }

        /** The letters of a text of at most seven, one behind another in one number. */
        private static long keyOf(String text) {
            long key = 0;
            for (int i = 0; i < text.length(); i++) {
                key = key << 8 | text.charAt(i);
            }
            return key;
        }

        /** That which is written so; another, if none is. */
        static Word find(long key, Word another) {
            for (Word word : ALL) {
                if (word.key == key && key != 0) {
                    return word;
                }
            }
            return another;
        }
    }

    /** The bytes that were fed and, while they are read as a text, its TOKENS and its first FAULT. */
    private static final class Tape {
        private final byte[] bytes = new byte[TAPE_MOST];
        private int length;
        private int most;
        private int position;
        private Word kind = Word.END;
        private int place;
        private int number;
        private long key;
        private int fault;
        private int faultPlace;

        void append(int four) {
            for (int shift = 24; shift >= 0; shift -= 8) {
                if (length < TAPE_MOST) {
                    bytes[length] = (byte) (four >>> shift);
                    length++;
                }
            }
        }

        /** Byte i from 0 to 255; 0, if there is none. */
        int get(int i) {
            return i < 0 || i >= length || i >= TAPE_MOST ? 0 : bytes[i] & 255;
        }

        void beginText(int mostBytes) {
            most = mostBytes;
            position = 0;
            fault = 0;
            faultPlace = 0;
            advance();
        }

        void advance() {
            skipBlanks();
            place = position;
            number = 0;
            key = 0;
            if (length > most && position >= most) {
                kind = Word.BAD;
                place = most;
            } else if (position >= length) {
                kind = Word.END;
            } else {
                readToken();
                kind = Word.find(key, kind);
            }
        }

        private void skipBlanks() {
            while (position < length && (bytes[position] == 32 || bytes[position] == 10)) {
                position++;
            }
        }

        /** Of what is spelled it tells the key alone. */
        private void readToken() {
            int letters = 0;
            int digits = 0;
            while (position < length) {
                int b = bytes[position];
                if (b >= 'a' && b <= 'z') {
                    key = key << 8 | b;
                    letters++;
                } else if (b >= '0' && b <= '9') {
                    number = number * 10 + b - '0';
                    digits++;
                } else {
                    break;
                }
                position++;
            }
            if (letters == 0 && digits == 0) {
                key = position < length ? bytes[position] & 255 : 0;
                kind = Word.BAD;
                position++;
            } else if (digits == 0 && letters <= Word.LONGEST) {
                kind = Word.NAME;
            } else {
                // Letters among digits, or too many of them, must not pass for a shorter word.
                key = 0;
                kind = letters == 0 && digits <= 3 ? Word.DIGITS : Word.BAD;
            }
        }

        /** Answers false always, so that a reader can end with it. */
        boolean failAt(int faultKind, int where) {
            if (fault == 0) {
                fault = faultKind;
                faultPlace = where;
            }
            return false;
        }

        boolean fail(int faultKind) {
            return failAt(faultKind, place);
        }

        boolean take(Word word) {
            if (kind != word) {
                return fail(NO_TOKEN);
            }
            advance();
            return true;
        }

        /** The NUMBER that comes, from least to greatest; NONE with a FAULT. */
        int takeNumber(int least, int greatest) {
            if (kind != Word.DIGITS) {
                fail(NO_TOKEN);
                return NONE;
            }
            if (number < least || number > greatest) {
                fail(BAD_NUMBER);
                return NONE;
            }
            int taken = number;
            advance();
            return taken;
        }

        /** The number of the one of a sort whose NAME comes; NONE with a FAULT. */
        int takeOneOf(Plan plan, int sort) {
            if (kind != Word.NAME) {
                fail(NO_TOKEN);
                return NONE;
            }
            int one = plan.numberOf(sort, key);
            if (one == NONE) {
                fail(BAD_NAME);
                return NONE;
            }
            advance();
            return one;
        }
    }

    /** What the text of a TOWN told: all that no act changes. */
    private static final class Plan {
        private static final int FIRST_RING = 8;
        private static final int FIRST_GAP = 4;

        private int ring = FIRST_RING;
        private int outAtFirst;
        private final int[] counts = new int[SORTS];
        private final long[] names = new long[SORTS * NAMES_A_SORT];
        private final int[] gaps = {FIRST_GAP, 0, 0, 0, 0};
        private final int[] personPlace = new int[7];
        private final int[] personPace = new int[7];
        private final int[] workPlace = new int[6];
        private final int[] workBeats = new int[6];
        private final int[] workBehind = new int[6];
        private final int[] every = new int[5];

        void clear() {
            ring = FIRST_RING;
            gaps[0] = FIRST_GAP;
            outAtFirst = 0;
            for (int sort = 0; sort < SORTS; sort++) {
                counts[sort] = 0;
            }
        }

        void copyFrom(Plan other) {
            ring = other.ring;
            outAtFirst = other.outAtFirst;
            System.arraycopy(other.counts, 0, counts, 0, SORTS);
            System.arraycopy(other.names, 0, names, 0, SORTS * NAMES_A_SORT);
            System.arraycopy(other.gaps, 0, gaps, 0, 5);
            System.arraycopy(other.personPlace, 0, personPlace, 0, 7);
            System.arraycopy(other.personPace, 0, personPace, 0, 7);
            System.arraycopy(other.workPlace, 0, workPlace, 0, 6);
            System.arraycopy(other.workBeats, 0, workBeats, 0, 6);
            System.arraycopy(other.workBehind, 0, workBehind, 0, 6);
            System.arraycopy(other.every, 0, every, 0, 5);
        }

        boolean has(int sort, int number) {
            return number >= 0 && number < counts[sort];
        }

        boolean isFull(int sort) {
            return counts[sort] >= MOST_OF_SORT[sort];
        }

        int beaters() {
            return 1 + counts[COUSINS];
        }

        boolean mayBeat(int c) {
            return c >= 0 && c <= counts[COUSINS];
        }

        int gapOf(int c) {
            return mayBeat(c) ? gaps[c] : NONE;
        }

        /** The number of the one who is new; the sort is not full. */
        int addName(int sort, long name) {
            int number = counts[sort];
            names[sort * NAMES_A_SORT + number] = name;
            counts[sort] = number + 1;
            return number;
        }

        long nameOf(int sort, int number) {
            return has(sort, number) ? names[sort * NAMES_A_SORT + number] : 0;
        }

        int numberOf(int sort, long name) {
            for (int i = 0; i < counts[sort]; i++) {
                if (names[sort * NAMES_A_SORT + i] == name) {
                    return i;
                }
            }
            return NONE;
        }

        boolean knows(long name) {
            for (int sort = 0; sort < SORTS; sort++) {
                if (numberOf(sort, name) != NONE) {
                    return true;
                }
            }
            return false;
        }

        int placeOn(int place, int steps) {
            return remainder(place + steps, ring);
        }
    }

    /** Reads the tape as a TOWN into a plan of its own, so that the town stays if there is a FAULT. */
    private static final class TownReader {
        private final Plan plan = new Plan();
        private boolean ringTold;
        private boolean gapTold;

        /** How many LINES there are; NONE with a FAULT. */
        int readTown(Tape tape) {
            plan.clear();
            ringTold = false;
            gapTold = false;
            for (int lines = 0; lines < TAPE_MOST; lines++) {
                if (tape.kind == Word.END) {
                    return lines;
                }
                if (!readLine(tape) || !tape.take(Word.SEMICOLON)) {
                    return NONE;
                }
            }
            return NONE;
        }

        private boolean readLine(Tape tape) {
            Word first = tape.kind;
            if (first == Word.RING) {
                return readRing(tape);
            }
            if (first == Word.GAP) {
                return readGap(tape);
            }
            if (first == Word.COUSIN) {
                return readCousin(tape);
            }
            if (first == Word.PERSON) {
                return readPerson(tape);
            }
            if (first == Word.WORK) {
                return readWork(tape);
            }
            if (first == Word.AFTER) {
                return readAfter(tape);
            }
            if (first == Word.THING) {
                return readThing(tape);
            }
            return tape.fail(NO_TOKEN);
        }

        private boolean readRing(Tape tape) {
            if (ringTold || plan.counts[PERSONS] + plan.counts[WORKS] > 0) {
                return tape.fail(BAD_NAME);
            }
            tape.advance();
            int places = tape.takeNumber(3, 12);
            if (places == NONE) {
                return false;
            }
            plan.ring = places;
            ringTold = true;
            return true;
        }

        private boolean readGap(Tape tape) {
            if (gapTold) {
                return tape.fail(BAD_NAME);
            }
            tape.advance();
            int seconds = tape.takeNumber(1, 9);
            if (seconds == NONE) {
                return false;
            }
            plan.gaps[0] = seconds;
            gapTold = true;
            return true;
        }

        /** The number of one more of a sort, at the LINE's first WORD; NONE with a FAULT. */
        private int readNewOne(Tape tape, int sort) {
            if (plan.isFull(sort)) {
                tape.fail(TOO_MANY);
                return NONE;
            }
            tape.advance();
            if (tape.kind != Word.NAME) {
                tape.fail(NO_TOKEN);
                return NONE;
            }
            if (plan.knows(tape.key)) {
                tape.fail(BAD_NAME);
                return NONE;
            }
            int one = plan.addName(sort, tape.key);
            tape.advance();
            return one;
        }

        // Behind a FAULT the rest of a LINE may be read on: the tape keeps its first FAULT alone.

        private boolean readCousin(Tape tape) {
            int cousin = readNewOne(tape, COUSINS);
            int seconds = tape.takeNumber(1, 9);
            if (cousin == NONE || seconds == NONE) {
                return false;
            }
            plan.gaps[1 + cousin] = seconds;
            return true;
        }

        private boolean readPerson(Tape tape) {
            int person = readNewOne(tape, PERSONS);
            int place = tape.takeNumber(0, plan.ring - 1);
            int pace = tape.takeNumber(1, 3);
            if (person == NONE || place == NONE || pace == NONE) {
                return false;
            }
            plan.personPlace[person] = place;
            plan.personPace[person] = pace;
            if (tape.kind == Word.OUT) {
                plan.outAtFirst |= 1 << person;
                tape.advance();
            }
            return true;
        }

        private boolean readWork(Tape tape) {
            int work = readNewOne(tape, WORKS);
            int place = tape.takeNumber(0, plan.ring - 1);
            int beats = tape.takeNumber(1, 30);
            if (work == NONE || place == NONE || beats == NONE) {
                return false;
            }
            plan.workPlace[work] = place;
            plan.workBeats[work] = beats;
            plan.workBehind[work] = 0;
            return true;
        }

        private boolean readAfter(Tape tape) {
            tape.advance();
            int later = tape.takeOneOf(plan, WORKS);
            int where = tape.place;
            int earlier = tape.takeOneOf(plan, WORKS);
            if (later == NONE || earlier == NONE) {
                return false;
            }
            if (earlier >= later || hasBit(plan.workBehind[later], earlier)) {
                return tape.failAt(BAD_NAME, where);
            }
            plan.workBehind[later] |= 1 << earlier;
            return true;
        }

        private boolean readThing(Tape tape) {
            int thing = readNewOne(tape, THINGS);
            int seconds = tape.takeNumber(2, 60);
            if (thing == NONE || seconds == NONE) {
                return false;
            }
            plan.every[thing] = seconds;
            return true;
        }
    }

    /** All that acts and SECONDS change in a TOWN. */
    private static final class Moment {
        private int second;
        private int beater;
        private int waits = Plan.FIRST_GAP;
        private boolean stands;
        private int beats;
        private int out;
        private final int[] place = new int[7];
        private final int[] steps = new int[7];
        private final int[] left = new int[6];

        void begin(Plan plan) {
            second = 0;
            beater = 0;
            waits = plan.gapOf(0);
            stands = false;
            beats = 0;
            out = plan.outAtFirst;
            for (int p = 0; p < 7; p++) {
                place[p] = plan.personPlace[p];
                steps[p] = 0;
            }
            for (int w = 0; w < 6; w++) {
                left[w] = plan.workBeats[w];
            }
        }

        void copyFrom(Moment other) {
            second = other.second;
            beater = other.beater;
            waits = other.waits;
            stands = other.stands;
            beats = other.beats;
            out = other.out;
            System.arraycopy(other.place, 0, place, 0, 7);
            System.arraycopy(other.steps, 0, steps, 0, 7);
            System.arraycopy(other.left, 0, left, 0, 6);
        }

        boolean isOut(int p) {
            return (out >>> p & 1) == 1;
        }

        boolean isDone(int w) {
            return left[w] <= 0;
        }

        int secondsLeft() {
            return ALL_SECONDS - second;
        }

        int doneWorks(Plan plan) {
            int done = 0;
            for (int w = 0; w < plan.counts[WORKS]; w++) {
                if (left[w] <= 0) {
                    done |= 1 << w;
                }
            }
            return done;
        }

        int openWorks(Plan plan) {
            int done = doneWorks(plan);
            int open = 0;
            for (int w = 0; w < plan.counts[WORKS]; w++) {
                if (left[w] > 0 && (plan.workBehind[w] & ~done) == 0) {
                    open |= 1 << w;
                }
            }
            return open;
        }

        int howWorkIs(Plan plan, int w) {
            if (isDone(w)) {
                return 2;
            }
            return hasBit(openWorks(plan), w) ? 1 : 0;
        }

        boolean isBusy(Plan plan, int p) {
            if (isOut(p)) {
                return false;
            }
            int open = openWorks(plan);
            for (int w = 0; w < plan.counts[WORKS]; w++) {
                if (hasBit(open, w) && plan.workPlace[w] == place[p]) {
                    return true;
                }
            }
            return false;
        }

        int placeBehind(Plan plan, int p, int moreBeats) {
            return isOut(p) ? place[p] : plan.placeOn(place[p], moreBeats * plan.personPace[p]);
        }

        private boolean somebodyWalksAt(Plan plan, int where) {
            for (int p = 0; p < plan.counts[PERSONS]; p++) {
                if (!isOut(p) && place[p] == where) {
                    return true;
                }
            }
            return false;
        }

        /** 0, and it is done, or why not; whom: who relieves, leaves, joins, or how many SECONDS. */
        int act(Plan plan, int act, int whom) {
            switch (act) {
                case FRIGHT: return takeFright(plan);
                case CURE: return takeCure();
                case FLY: return takeFly();
                case RELIEVE: return changeBeater(plan, whom);
                case LEAVE: return goOut(whom);
                case JOIN: return comeIn(plan, whom);
                case SECONDS: return passAll(plan, whom);
                default: return NONE;
            }
        }

        private int takeFright(Plan plan) {
            if (stands) {
                return 1;
            }
            waits = Math.min(LONGEST_WAIT, waits + plan.gapOf(beater));
            return 0;
        }

        private int takeCure() {
            if (stands) {
                return 1;
            }
            stands = true;
            return 0;
        }

        private int takeFly() {
            if (!stands) {
                return 1;
            }
            stands = false;
            waits = 1;
            return 0;
        }

        private int changeBeater(Plan plan, int c) {
            if (beater == c) {
                return 1;
            }
            beater = c;
            waits = Math.min(waits, plan.gapOf(c));
            return 0;
        }

        private int goOut(int p) {
            if (isOut(p)) {
                return 1;
            }
            out |= 1 << p;
            return 0;
        }

        private int comeIn(Plan plan, int p) {
            if (!isOut(p)) {
                return 1;
            }
            // He is out himself, so whoever walks there is another one.
            if (somebodyWalksAt(plan, place[p])) {
                return 2;
            }
            out &= ~(1 << p);
            return 0;
        }

        private int passAll(Plan plan, int n) {
            if (n > secondsLeft()) {
                return 1;
            }
            for (int i = 0; i < n; i++) {
                passSecond(plan);
            }
            return 0;
        }

        private void passSecond(Plan plan) {
            if (!stands) {
                waits--;
                if (waits <= 0) {
                    beat(plan);
                }
            }
            second++;
        }

        private void beat(Plan plan) {
            int open = openWorks(plan);
            for (int p = 0; p < plan.counts[PERSONS]; p++) {
                if (!isOut(p)) {
                    place[p] = plan.placeOn(place[p], plan.personPace[p]);
                    steps[p] += plan.personPace[p];
                }
            }
            for (int w = 0; w < plan.counts[WORKS]; w++) {
                if (hasBit(open, w) && somebodyWalksAt(plan, plan.workPlace[w])) {
                    left[w]--;
                }
            }
            beats++;
            waits = plan.gapOf(beater);
        }

        int secondsTillDone(Plan plan, int w) {
            int most = secondsLeft();
            for (int passed = 0; passed < most; passed++) {
                if (isDone(w)) {
                    return passed;
                }
                passSecond(plan);
            }
            return isDone(w) ? most : NONE;
        }

        int secondsTillFree(Plan plan, int p) {
            int most = secondsLeft();
            for (int passed = 0; passed < most; passed++) {
                if (!somebodyWalksAt(plan, place[p])) {
                    return passed;
                }
                passSecond(plan);
            }
            return somebodyWalksAt(plan, place[p]) ? NONE : most;
        }

        /** How many of n SECONDS went by as DRAWN. */
        int passDrawn(Plan plan, int n, int seed) {
            int most = Math.min(n, secondsLeft());
            int x = seed;
            for (int i = 0; i < most; i++) {
                x = passDrawnSecond(plan, x);
            }
            return most;
        }

        private int passDrawnSecond(Plan plan, int seed) {
            int x = stir(seed);
            int lot = drawOf(x, 20);
            if (lot == 0) {
                takeFright(plan);
            } else if (lot == 1) {
                takeCure();
            } else if (lot <= 4) {
                takeFly();
            }
            for (int p = 0; p < plan.counts[PERSONS]; p++) {
                x = stir(x);
                if (drawOf(x, 12) == 0) {
                    leaveOrJoin(plan, p);
                }
            }
            passSecond(plan);
            return x;
        }

        private void leaveOrJoin(Plan plan, int p) {
            if (isOut(p)) {
                comeIn(plan, p);
            } else {
                goOut(p);
            }
        }

        private static int stir(int x) {
            return x * 1103515245 + 12345;
        }

        private static int drawOf(int x, int n) {
            return remainder(x >>> 8, n);
        }

        /** Who is for the CURE behind one ROUND more, as bits. */
        int votesBehindRound(Plan plan, int votes) {
            int changed = votes;
            for (int p = 0; p < plan.counts[PERSONS]; p++) {
                if (!isOut(p)) {
                    changed = votesBehind(plan, changed, p);
                }
            }
            return changed;
        }

        private int votesBehind(Plan plan, int votes, int p) {
            int lead = 0;
            for (int q = 0; q < plan.counts[PERSONS]; q++) {
                if (q != p && willBeNear(plan, p, q)) {
                    lead += hasBit(votes, q) ? 1 : -1;
                }
            }
            if (lead > 0) {
                return votes | 1 << p;
            }
            return lead < 0 ? votes & ~(1 << p) : votes;
        }

        private boolean willBeNear(Plan plan, int p, int q) {
            int apart = Math.abs(placeBehind(plan, p, 1) - placeBehind(plan, q, 1));
            return apart <= 1 || apart == plan.ring - 1;
        }
    }

    /** The moments ahead of the latest eight acts; the oldest gives way to a ninth. */
    private static final class Past {
        private static final int MOST = 8;

        private final Moment[] moments = new Moment[MOST];
        private int newest;
        private int size;

        Past() {
            for (int i = 0; i < MOST; i++) {
                moments[i] = new Moment();
            }
        }

        void forget() {
            size = 0;
        }

        void keep(Moment moment) {
            newest = (newest + 1) & (MOST - 1);
            Moment place = moments[newest];
            if (place != null) {
                place.copyFrom(moment);
                size = Math.min(MOST, size + 1);
            }
        }

        /** How many more can be taken back; NONE, and the moment stays, if none can. */
        int takeBack(Moment moment) {
            Moment latest = moments[newest];
            if (size == 0 || latest == null) {
                return NONE;
            }
            moment.copyFrom(latest);
            newest = (newest + MOST - 1) & (MOST - 1);
            size--;
            return size;
        }
    }

    /** TOWN, all that is so, and the SENTENCE. */
    private static final class Scene {
        private final Plan plan = new Plan();
        private final Moment moment = new Moment();
        private final Sentence sentence = new Sentence();
        private boolean kept;

        void begin(Plan told) {
            plan.copyFrom(told);
            moment.begin(plan);
            sentence.clear();
        }

        void copyFrom(Scene other) {
            plan.copyFrom(other.plan);
            moment.copyFrom(other.moment);
            sentence.copyFrom(other.sentence);
        }
    }

    /** Which numbers of seconds go with what THINGS show. */
    private static final class Clues {
        private static final int NUMBERS = 256;
        private static final int MOST_PAIRS = 8;

        private final boolean[] fits = new boolean[NUMBERS];
        private int least = NONE;
        private int greatest = NONE;
        private int nextThing = NONE;

        /** How many numbers the tape's pairs leave; NONE: the tape is not as told. */
        int judge(Tape tape, Plan plan) {
            if (!arePairs(tape, plan)) {
                return NONE;
            }
            int found = 0;
            for (int number = 0; number < NUMBERS; number++) {
                fits[number] = leavesRests(tape, plan, number);
                if (fits[number]) {
                    found++;
                }
            }
            if (found > 0) {
                keepBounds();
                nextThing = thingToLookAt(plan);
            }
            return found;
        }

        private static boolean arePairs(Tape tape, Plan plan) {
            if (tape.length < 2 || tape.length > 2 * MOST_PAIRS || tape.length % 2 != 0) {
                return false;
            }
            for (int i = 0; i < tape.length; i += 2) {
                if (!plan.has(THINGS, tape.get(i))) {
                    return false;
                }
            }
            return true;
        }

        private static boolean leavesRests(Tape tape, Plan plan, int number) {
            for (int i = 0; i + 1 < tape.length; i += 2) {
                int thing = tape.get(i);
                if (plan.has(THINGS, thing) && remainder(number, plan.every[thing]) != tape.get(i + 1)) {
                    return false;
                }
            }
            return true;
        }

        private void keepBounds() {
            least = NONE;
            for (int number = 0; number < NUMBERS; number++) {
                if (fits[number]) {
                    if (least == NONE) {
                        least = number;
                    }
                    greatest = number;
                }
            }
        }

        private int thingToLookAt(Plan plan) {
            int best = NONE;
            int fewest = NUMBERS + 1;
            for (int thing = 0; thing < plan.counts[THINGS]; thing++) {
                int left = mostLeftBy(plan.every[thing]);
                if (left < fewest) {
                    fewest = left;
                    best = thing;
                }
            }
            return best;
        }

        private int mostLeftBy(int every) {
            int most = 0;
            for (int rest = 0; rest < every; rest++) {
                int left = 0;
                for (int number = rest; number < NUMBERS; number += every) {
                    if (fits[number]) {
                        left++;
                    }
                }
                most = Math.max(most, left);
            }
            return most;
        }
    }

    /** In how many rows of who BEATS a time goes, and the first of them. */
    private static final class Rows {
        private static final int MOST_SECONDS = 60;
        private static final int MOST_BEATS = 5;

        private final int[][] ways = new int[MOST_BEATS + 1][MOST_SECONDS + 1];
        private final int[] first = new int[MOST_BEATS];
        private int firstLength;

        int countFor(Plan plan, int seconds, int beats) {
            ways[0][0] = 1;
            for (int k = 1; k <= beats; k++) {
                for (int n = 0; n <= seconds; n++) {
                    ways[k][n] = waysWithOneMore(plan, n, k);
                }
            }
            if (ways[beats][seconds] > 0) {
                keepFirst(plan, seconds, beats);
            }
            return ways[beats][seconds];
        }

        private int waysWithOneMore(Plan plan, int n, int k) {
            int sum = 0;
            for (int c = 0; c < plan.beaters(); c++) {
                int rest = n - plan.gaps[c];
                if (rest >= 0) {
                    sum += ways[k - 1][rest];
                }
            }
            return sum;
        }

        private void keepFirst(Plan plan, int seconds, int beats) {
            int rest = seconds;
            for (int i = 0; i < beats; i++) {
                int c = leastBeater(plan, rest, beats - 1 - i);
                first[i] = c;
                rest -= plan.gaps[c];
            }
            firstLength = beats;
        }

        /** The least one behind whose BEAT the other BEATS can fill the rest; there is one. */
        private int leastBeater(Plan plan, int seconds, int beatsBehind) {
            for (int c = 0; c < plan.beaters(); c++) {
                int rest = seconds - plan.gaps[c];
                if (rest >= 0 && ways[beatsBehind][rest] > 0) {
                    return c;
                }
            }
            return 0;
        }
    }

    /** A BOOK's LINES, and what was told by the latest one without a FAULT. */
    private static final class Book {
        private static final int MOST_LINES = 40;

        private final int[] acts = new int[MOST_LINES];
        private final int[] whom = new int[MOST_LINES];
        private int lines;
        private boolean judged;
        private int why;
        private int rightLines;
        private int secondThen;
        private int doneThen;

        boolean readBook(Tape tape, Plan plan) {
            lines = 0;
            for (int i = 0; i <= MOST_LINES; i++) {
                if (tape.kind == Word.END) {
                    return true;
                }
                if (!readLine(tape, plan) || !tape.take(Word.SEMICOLON)) {
                    return false;
                }
            }
            return false;
        }

        private boolean readLine(Tape tape, Plan plan) {
            Word first = tape.kind;
            int who = NONE;
            if (first == Word.NAME) {
                who = plan.numberOf(PERSONS, tape.key);
                if (who == NONE) {
                    return tape.fail(BAD_NAME);
                }
            } else if (!isAct(first)) {
                return tape.fail(NO_TOKEN);
            }
            if (lines >= MOST_LINES) {
                return tape.fail(TOO_MANY);
            }
            tape.advance();
            if (first == Word.RELIEVE) {
                return readRelieve(tape, plan);
            }
            if (first == Word.SECOND) {
                int n = tape.takeNumber(1, SECONDS_AT_ONCE);
                return n != NONE && add(SECONDS, n);
            }
            return first == Word.NAME ? readWalk(tape, who) : add(actOf(first), 0);
        }

        private static boolean isAct(Word word) {
            return word == Word.FRIGHT || word == Word.CURE || word == Word.FLY
                    || word == Word.RELIEVE || word == Word.SECOND;
        }

        private static int actOf(Word word) {
            if (word == Word.FRIGHT) {
                return FRIGHT;
            }
            return word == Word.CURE ? CURE : FLY;
        }

        private boolean readRelieve(Tape tape, Plan plan) {
            if (tape.kind == Word.MAN) {
                tape.advance();
                return add(RELIEVE, 0);
            }
            int cousin = tape.takeOneOf(plan, COUSINS);
            return cousin != NONE && add(RELIEVE, 1 + cousin);
        }

        private boolean readWalk(Tape tape, int who) {
            if (tape.kind == Word.LEAVES) {
                tape.advance();
                return add(LEAVE, who);
            }
            return tape.take(Word.JOINS) && add(JOIN, who);
        }

        private boolean add(int act, int one) {
            if (lines >= MOST_LINES) {
                return false;
            }
            acts[lines] = act;
            whom[lines] = one;
            lines++;
            return true;
        }

        /** The LINE that is WRONG, at which the moment stays; NONE: all were lived. */
        int live(Plan plan, Moment moment) {
            judged = true;
            why = 0;
            rightLines = 0;
            for (int i = 0; i < lines && why == 0; i++) {
                int whyNot = moment.act(plan, acts[i], whom[i]);
                if (whyNot == 0) {
                    rightLines++;
                } else {
                    why = 10 * acts[i] + whyNot;
                }
            }
            secondThen = moment.second;
            doneThen = moment.doneWorks(plan);
            return why == 0 ? NONE : rightLines;
        }

        int tell(int what) {
            if (!judged) {
                return NONE;
            }
            switch (what) {
                case 0: return why;
                case 1: return rightLines;
                case 2: return secondThen;
                case 3: return doneThen;
                default: return NONE;
            }
        }
    }

    /** What is said of PERSONS: each one and each joining word comes behind what it joins. */
    private static final class Sentence {
        private static final int MOST_ONES = 20;
        private static final int MOST_WITHIN = 8;
        private static final int MOST_PARTS = 2 * MOST_ONES;

        private final Word[] parts = new Word[MOST_PARTS];
        private final Word[] signs = new Word[MOST_PARTS];
        private final int[] numbers = new int[MOST_PARTS];
        private int size;
        private int ones;

        void clear() {
            size = 0;
            ones = 0;
        }

        boolean isTold() {
            return ones > 0;
        }

        void copyFrom(Sentence other) {
            size = other.size;
            ones = other.ones;
            for (int i = 0; i < MOST_PARTS; i++) {
                parts[i] = other.parts[i];
                signs[i] = other.signs[i];
                numbers[i] = other.numbers[i];
            }
        }

        boolean readSentence(Tape tape, Plan plan) {
            clear();
            return readCond(tape, plan, 1) && tape.take(Word.END);
        }

        private boolean readCond(Tape tape, Plan plan, int depth) {
            if (!readAll(tape, plan, depth)) {
                return false;
            }
            for (int i = 0; i < MOST_ONES && tape.kind == Word.OR; i++) {
                tape.advance();
                if (!readAll(tape, plan, depth)) {
                    return false;
                }
                add(Word.OR, Word.OR, 0);
            }
            return true;
        }

        private boolean readAll(Tape tape, Plan plan, int depth) {
            if (!readOne(tape, plan, depth)) {
                return false;
            }
            for (int i = 0; i < MOST_ONES && tape.kind == Word.AND; i++) {
                tape.advance();
                if (!readOne(tape, plan, depth)) {
                    return false;
                }
                add(Word.AND, Word.AND, 0);
            }
            return true;
        }

        private boolean readOne(Tape tape, Plan plan, int depth) {
            Word first = tape.kind;
            if (!beginsOne(first)) {
                return tape.fail(NO_TOKEN);
            }
            if (ones >= MOST_ONES || depth > MOST_WITHIN) {
                return tape.fail(TOO_MANY);
            }
            ones++;
            tape.advance();
            if (first == Word.NOT) {
                return readOne(tape, plan, depth + 1) && add(first, first, 0);
            }
            if (first == Word.OPENING) {
                return readCond(tape, plan, depth + 1) && tape.take(Word.CLOSING);
            }
            if (first == Word.OUT || first == Word.BUSY) {
                return add(first, first, 0);
            }
            if (first == Word.BY || first == Word.WITH) {
                int named = tape.takeOneOf(plan, first == Word.BY ? WORKS : PERSONS);
                return named != NONE && add(first, first, named);
            }
            Word sign = tape.kind;
            if (!isSign(sign)) {
                return tape.fail(NO_TOKEN);
            }
            tape.advance();
            int number = tape.takeNumber(0, 999);
            return number != NONE && add(first, sign, number);
        }

        private static boolean beginsOne(Word word) {
            return word == Word.NOT || word == Word.OPENING || word == Word.OUT || word == Word.BUSY
                    || word == Word.BY || word == Word.WITH || word == Word.PLACE || word == Word.PACE
                    || word == Word.STEPS || word == Word.NUMBER;
        }

        private static boolean isSign(Word word) {
            return word == Word.LESS || word == Word.EQUAL || word == Word.GREATER;
        }

        private boolean add(Word part, Word sign, int number) {
            if (size >= MOST_PARTS) {
                return false;
            }
            parts[size] = part;
            signs[size] = sign;
            numbers[size] = number;
            size++;
            return true;
        }

        boolean holds(Plan plan, Moment moment, int p) {
            // What is still to be joined, the latest as the lowest bit: no more than 20 ONES wait.
            int row = 0;
            for (int i = 0; i < size; i++) {
                Word part = parts[i];
                if (part == Word.NOT) {
                    row ^= 1;
                } else if (part == Word.AND) {
                    row = row >>> 1 & (row | ~1);
                } else if (part == Word.OR) {
                    row = row >>> 1 | row & 1;
                } else {
                    row = row << 1 | (holdsAlone(plan, moment, p, i) ? 1 : 0);
                }
            }
            return (row & 1) == 1;
        }

        private boolean holdsAlone(Plan plan, Moment moment, int p, int i) {
            Word part = parts[i];
            if (part == Word.OUT) {
                return moment.isOut(p);
            }
            if (part == Word.BUSY) {
                return moment.isBusy(plan, p);
            }
            if (part == Word.BY) {
                return plan.has(WORKS, numbers[i]) && moment.place[p] == plan.workPlace[numbers[i]];
            }
            if (part == Word.WITH) {
                return plan.has(PERSONS, numbers[i]) && moment.place[p] == moment.place[numbers[i]];
            }
            return compares(measure(plan, moment, p, part), signs[i], numbers[i]);
        }

        private static int measure(Plan plan, Moment moment, int p, Word what) {
            if (what == Word.PLACE) {
                return moment.place[p];
            }
            if (what == Word.PACE) {
                return plan.personPace[p];
            }
            return what == Word.STEPS ? moment.steps[p] : p;
        }

        private static boolean compares(int measured, Word sign, int number) {
            if (sign == Word.LESS) {
                return measured < number;
            }
            return sign == Word.EQUAL ? measured == number : measured > number;
        }
    }
}
