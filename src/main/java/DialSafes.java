import java.util.NoSuchElementException;

/** A safe behind a dial, as ../shared/DOC.md tells it; the numbered promises there are its methods. */
public final class DialSafes {
    public static final int NONE = -1;

    private static final int LEAST_NUMBERS = 10;
    private static final int MOST_NUMBERS = 100;
    private static final int FIRST_NUMBERS = 20;
    private static final int MOST_WHEELS = 4;
    private static final int MOST_HOURS = 999;
    private static final int MOST_DAY = 999;
    private static final int MOST_DOUBT = 99;
    private static final int MOST_BY_HAND = 100000;
    private static final int PERSONS = 6;
    private static final int TAPE_ROOM = 500;
    private static final int FED_AT_ONCE = 20;
    private static final int NOT_SO_MANY = -2;
    private static final int SEEKING_SPENT = -2;

    private final byte[] tape;
    private final Safe safe;
    private final Feels feels;
    private final Reader reader;
    private final Runner runner;
    private final Finder finder;
    private final Seeker seeker;
    private final Changes changes;
    private final Words words;
    private int taped;
    private int today;

    public DialSafes() {
        tape = new byte[TAPE_ROOM];
        safe = new Safe();
        feels = new Feels();
        reader = new Reader();
        runner = new Runner(safe, feels, reader);
        finder = new Finder(safe, feels);
        seeker = new Seeker(safe, finder);
        changes = new Changes();
        words = new Words(safe, changes);
    }

    public int feed(int a, int b, int c, int d, int e) {
        if (taped + FED_AT_ONCE > TAPE_ROOM) {
            return NONE;
        }
        putFour(a);
        putFour(b);
        putFour(c);
        putFour(d);
        putFour(e);
        return taped;
    }

    public int turn(int n) {
        if (n < 0 || n > taped) {
            return NOT_SO_MANY;
        }
        taped = 0;
        runner.forget();
        reader.readText(tape, n);
        return reader.fault == Reader.NO_FAULT ? runner.runRow(0, reader.size, 0) : NONE;
    }

    public int turned(int what) {
        switch (what) {
            case 0:
                return reader.fault;
            case 1:
                return reader.faultAt;
            case 2:
                return runner.steps;
            case 3:
                return runner.done;
            case 4:
                return runner.tries;
            default:
                return NONE;
        }
    }

    public boolean dial(int n) {
        if (n < LEAST_NUMBERS || n > MOST_NUMBERS) {
            return false;
        }
        safe.renew(n);
        feels.size = 0;
        changes.size = 0;
        words.size = 0;
        today = 0;
        return true;
    }

    public int wheel(int fly, int gate, int slack, int high, int run, int top, int slope) {
        boolean fits = isWithin(fly, 1, 9) && safe.hasNumber(gate) && isWithin(slack, 0, 3)
                && isWithin(high, 200, 900) && isWithin(run, 0, 50) && safe.hasNumber(top) && isWithin(slope, 0, 60);
        if (!fits || safe.train.size >= MOST_WHEELS) {
            return NONE;
        }
        int number = safe.train.size;
        safe.wheels[number].form(fly, gate, slack, high, run, top, slope);
        safe.train.addWheel(fly);
        safe.train.goHome();
        feels.size = 0;
        return number;
    }

    public boolean second(int wheel, int gate) {
        if (!safe.hasWheel(wheel) || gate != NONE && !safe.hasNumber(gate)) {
            return false;
        }
        safe.wheels[wheel].second = gate;
        return true;
    }

    public int step(int n) {
        if (!isWithin(n, -MOST_BY_HAND, MOST_BY_HAND)) {
            return NONE;
        }
        safe.train.spin(Math.abs(n), n > 0);
        return safe.train.number;
    }

    public int look(int wheel, int what) throws IndexOutOfBoundsException, NoSuchElementException {
        if (!safe.hasWheel(wheel)) {
            throw new IndexOutOfBoundsException("no such wheel");
        }
        Wheel seen = safe.wheels[wheel];
        switch (what) {
            case 0:
                return safe.train.places[wheel];
            case 1:
                return safe.train.lags[wheel];
            case 2:
                return safe.radius(wheel);
            case 3:
                return safe.isIn(wheel) ? 1 : 0;
            case 4:
                return seen.gate;
            case 5:
                return seen.second;
            case 6:
                return seen.fly;
            case 7:
                return seen.slack;
            default:
                throw new NoSuchElementException("no such what");
        }
    }

    public int rides() {
        return safe.leverHeight();
    }

    public int open() {
        return safe.tryLever();
    }

    public boolean clock(int hours) {
        if (!isWithin(hours, 0, MOST_HOURS) || safe.leverHeight() != 0) {
            return false;
        }
        safe.hoursHeld = hours;
        return true;
    }

    public int hours(int n) {
        if (!isWithin(n, 0, 9999)) {
            return NONE;
        }
        safe.hoursHeld = Math.max(0, safe.hoursHeld - n);
        return safe.hoursHeld;
    }

    public int comes(int wheel, boolean left) {
        return safe.hasWheel(wheel) ? safe.train.numberFor(wheel, safe.wheels[wheel].gate, left) : NONE;
    }

    public boolean change(int wheel, int gate) {
        if (!safe.hasWheel(wheel) || !safe.hasNumber(gate) || safe.leverHeight() != 0) {
            return false;
        }
        if (!changes.note(wheel, today, gate)) {
            return false;
        }
        safe.wheels[wheel].gate = gate;
        return true;
    }

    public int feel(int k, int what) {
        if (k < 0 || k >= feels.size || what < 0 || what > safe.train.size) {
            return NONE;
        }
        return what == 0 ? feels.heights[k] : feels.placeOf(k, what - 1);
    }

    public boolean doubt(int d) {
        if (!isWithin(d, 0, MOST_DOUBT)) {
            return false;
        }
        feels.doubt = d;
        return true;
    }

    public int may(int wheel, int k) {
        if (!safe.hasWheel(wheel)) {
            return NONE;
        }
        finder.weighGates(wheel);
        return k == NONE ? finder.countPossible() : finder.possibleAt(k);
    }

    public int cover(int wheel, int k) {
        if (!safe.hasWheel(wheel)) {
            return NONE;
        }
        finder.layOut(wheel);
        if (k == NONE) {
            return finder.rowSize;
        }
        return k < 0 || k >= finder.rowSize ? NONE : finder.row[k];
    }

    public long seek(int what) {
        if (safe.train.size == 0 || !isWithin(what, 0, 3)) {
            return NONE;
        }
        if (!seeker.gatherCovers()) {
            return SEEKING_SPENT;
        }
        seeker.goThroughRows(0);
        switch (what) {
            case 0:
                return seeker.rows;
            case 1:
                return seeker.tries;
            case 2:
                return seeker.stepsUntilFound;
            default:
                return seeker.steps;
        }
    }

    public long best(int what) {
        if (safe.train.size == 0 || !isWithin(what, 0, 1)) {
            return NONE;
        }
        if (!seeker.gatherCovers()) {
            return SEEKING_SPENT;
        }
        seeker.chooseOrder();
        return what == 0 ? seeker.bestBits : seeker.bestSteps;
    }

    public int days(int n) {
        if (!isWithin(n, 0, MOST_DAY) || today + n > MOST_DAY) {
            return NONE;
        }
        today += n;
        return today;
    }

    public int tell(int person, int wheel, int gate) {
        if (!isPerson(person) || !safe.hasWheel(wheel) || gate != NONE && !safe.hasNumber(gate)) {
            return NONE;
        }
        return words.note(person, wheel, gate, today);
    }

    public int strike(int word) {
        if (word < 0 || word >= words.size) {
            return NONE;
        }
        return words.note(Words.STRIKE, NONE, word, today);
    }

    public int gate(int wheel, int day) {
        if (!safe.hasWheel(wheel) || !isDay(day)) {
            return NONE;
        }
        return changes.gateAtEndOf(day, wheel, safe.wheels[wheel].firstGate);
    }

    public int knows(int person, int day, int known) {
        if (!isPerson(person) || !isDay(day) || !isDay(known) || day > known) {
            return NONE;
        }
        words.markStruck(known);
        return words.wheelsKnownTo(person, day);
    }

    public int can(int day, int known) {
        if (!isDay(day) || !isDay(known) || day > known) {
            return NONE;
        }
        words.markStruck(known);
        return words.fewestWhoCan(day);
    }

    public int count(int what) {
        switch (what) {
            case 0:
                return safe.train.numbers;
            case 1:
                return safe.train.size;
            case 2:
                return feels.size;
            case 3:
                return words.size;
            case 4:
                return safe.train.number;
            case 5:
                return safe.hoursHeld;
            case 6:
                return today;
            case 7:
                return feels.doubt;
            default:
                return NONE;
        }
    }

    private void putFour(int number) {
        for (int shift = 24; shift >= 0 && taped < TAPE_ROOM; shift -= 8) {
            tape[taped] = (byte) (number >> shift);
            taped++;
        }
    }

    private static boolean isWithin(int value, int least, int most) {
        return value >= least && value <= most;
    }

    private static boolean isPerson(int person) {
        return isWithin(person, 0, PERSONS - 1);
    }

    private static boolean isDay(int day) {
        return isWithin(day, 0, MOST_DAY);
    }

    /** What a wheel is, wherever it stands. */
    private static final class Wheel {
        private int fly;
        private int firstGate;
        private int gate;
        private int second;
        private int slack;
        private int high;
        private int run;
        private int top;
        private int slope;

        private void form(int newFly, int newGate, int newSlack, int newHigh, int newRun, int newTop, int newSlope) {
            fly = newFly;
            firstGate = newGate;
            gate = newGate;
            second = NONE;
            slack = newSlack;
            high = newHigh;
            run = newRun;
            top = newTop;
            slope = newSlope;
        }
    }

    /** How the dial and the wheels stand and take each other along; seeking turns one of its own. */
    private static final class Train {
        private final int[] travels = new int[MOST_WHEELS];
        private final int[] lags = new int[MOST_WHEELS];
        private final int[] places = new int[MOST_WHEELS];
        private int numbers = FIRST_NUMBERS;
        private int size;
        private int number;
        private boolean latestLeft;

        private void addWheel(int fly) {
            if (size < MOST_WHEELS) {
                travels[size] = numbers - fly;
                size++;
            }
        }

        private void goHome() {
            number = 0;
            for (int w = 0; w < MOST_WHEELS; w++) {
                lags[w] = 0;
                places[w] = 0;
            }
        }

        private void becomeLike(Train other) {
            numbers = other.numbers;
            size = other.size;
            for (int w = 0; w < MOST_WHEELS; w++) {
                travels[w] = other.travels[w];
            }
        }

        private int wrap(int value) {
            return Math.floorMod(value, Math.max(1, numbers));
        }

        private int far(int one, int other) {
            int way = one < other ? other - one : one - other;
            return 2 * way > numbers ? numbers - way : way;
        }

        /** Steps at once give what they give one by one: a wheel's driver first takes up the lag that is left. */
        private void spin(int steps, boolean left) {
            if (steps < 1) {
                return;
            }
            latestLeft = left;
            number = wrap(left ? number + steps : number - steps);
            int moved = steps;
            for (int w = 0; w < size; w++) {
                int taken = Math.min(moved, play(w, left));
                moved -= taken;
                lags[w] += left ? taken : -taken;
                places[w] = wrap(left ? places[w] + moved : places[w] - moved);
            }
        }

        private int play(int wheel, boolean left) {
            return left ? travels[wheel] - lags[wheel] : lags[wheel];
        }

        private int stepsTo(int place, boolean left, int times) {
            int way = left ? place - number : number - place;
            return 1 + wrap(way - 1) + (times - 1) * numbers;
        }

        private int stepsToSet(int wheel, int place, boolean left) {
            int least = 1;
            for (int w = 0; w <= wheel; w++) {
                least += play(w, left);
            }
            int goal = numberFor(wheel, place, left);
            int way = left ? goal - number : number - goal;
            return least + wrap(way - least);
        }

        private int numberFor(int wheel, int place, boolean left) {
            int sum = place;
            for (int w = 0; w <= wheel && left; w++) {
                sum += travels[w];
            }
            return wrap(sum);
        }
    }

    /** The wheels on their train, the lever on them, and the clock that holds it. */
    private static final class Safe {
        private static final int SHUT = 0;
        private static final int OPENS = 1;
        private static final int OPENS_WITH_HELP = 2;

        private final Train train = new Train();
        private final Wheel[] wheels = new Wheel[MOST_WHEELS];
        private int hoursHeld;

        private Safe() {
            for (int w = 0; w < MOST_WHEELS; w++) {
                wheels[w] = new Wheel();
            }
        }

        private void renew(int numbers) {
            train.numbers = numbers;
            train.size = 0;
            train.goHome();
            // Another dial has made no step yet, so a back on it goes left as on a new object.
            train.latestLeft = false;
            hoursHeld = 0;
        }

        private boolean hasWheel(int wheel) {
            return wheel >= 0 && wheel < train.size;
        }

        private boolean hasNumber(int number) {
            return number >= 0 && number < train.numbers;
        }

        private int radiusWithoutGates(int wheel, int place) {
            Wheel shape = wheels[wheel];
            return shape.high - shape.run * train.far(place, shape.top) / Math.max(1, train.numbers / 2);
        }

        private int radius(int wheel) {
            Wheel shape = wheels[wheel];
            int place = train.places[wheel];
            int nearest = train.far(place, shape.gate);
            if (shape.second != NONE) {
                nearest = Math.min(nearest, train.far(place, shape.second));
            }
            if (nearest <= shape.slack) {
                return 0;
            }
            int whole = radiusWithoutGates(wheel, place);
            return nearest == shape.slack + 1 ? whole - shape.slope : whole;
        }

        /** No wheel is so low or so worn that its radius could be 0 beside its gates. */
        private boolean isIn(int wheel) {
            return radius(wheel) == 0;
        }

        private boolean isInByGate(int wheel) {
            return train.far(train.places[wheel], wheels[wheel].gate) <= wheels[wheel].slack;
        }

        private int leverHeight() {
            int greatest = 0;
            for (int w = 0; w < train.size; w++) {
                greatest = Math.max(greatest, radius(w));
            }
            return greatest;
        }

        private int tryLever() {
            if (hoursHeld != 0 || leverHeight() != 0) {
                return SHUT;
            }
            for (int w = 0; w < train.size; w++) {
                if (!isInByGate(w)) {
                    return OPENS_WITH_HELP;
                }
            }
            return OPENS;
        }

        private int greatestHighBut(int wheel) {
            int greatest = 0;
            for (int w = 0; w < train.size; w++) {
                if (w != wheel) {
                    greatest = Math.max(greatest, wheels[w].high);
                }
            }
            return greatest;
        }
    }

    /** Touches noted: how high the lever rode, and where each wheel stood. */
    private static final class Feels {
        private static final int MOST = 100;

        private final int[] heights = new int[MOST];
        private final int[] places = new int[MOST * MOST_WHEELS];
        private int size;
        private int doubt;

        private void note(Safe safe) {
            if (size >= MOST) {
                return;
            }
            heights[size] = safe.leverHeight();
            for (int w = 0; w < MOST_WHEELS; w++) {
                places[size * MOST_WHEELS + w] = safe.train.places[w];
            }
            size++;
        }

        private int placeOf(int k, int wheel) {
            return places[k * MOST_WHEELS + wheel];
        }
    }

    /** The tokens of a text; the last one is its end. */
    private static final class Tokens {
        private static final int END_OF_TEXT = 0;
        private static final int NO_TOKEN = 1;
        private static final int NUMBER = 2;
        private static final int LETTER = 3;
        private static final int LEFT = 4;
        private static final int RIGHT = 5;
        private static final int BACK = 6;
        private static final int FEEL = 7;
        private static final int TRY = 8;
        private static final int AGAIN = 9;
        private static final int EACH = 10;
        // A sign's kind is the sign itself: all of them are above these.

        private static final int LETTERS = 8;
        private static final int MOST_IN_NUMBER = 999;

        private final int[] kinds = new int[TAPE_ROOM + 1];
        private final int[] starts = new int[TAPE_ROOM + 1];
        private final int[] values = new int[TAPE_ROOM + 1];
        private int size;
        private int next;

        private void split(byte[] text, int length) {
            int end = Math.min(length, Math.min(text.length, TAPE_ROOM));
            size = 0;
            next = 0;
            for (int taken = 0; taken < end && next < end; taken++) {
                if (text[next] == ' ' || text[next] == '\n') {
                    next++;
                } else {
                    takeToken(text, end);
                    size++;
                }
            }
            kinds[size] = END_OF_TEXT;
            starts[size] = end;
            size++;
        }

        private void takeToken(byte[] text, int end) {
            starts[size] = next;
            if (isSmallLetter(text[next])) {
                takeWord(text, end);
            } else if (isDigit(text[next])) {
                takeNumber(text, end);
            } else {
                int sign = text[next];
                boolean known = sign == ';' || sign == '(' || sign == ')' || sign == '+' || sign == '-';
                kinds[size] = known ? sign : NO_TOKEN;
                next++;
            }
        }

        private void takeNumber(byte[] text, int end) {
            int value = 0;
            while (next < end && isDigit(text[next])) {
                // Held just above the most there can be, so that a long row can't run over.
                value = Math.min(value * 10 + text[next] - '0', MOST_IN_NUMBER + 1);
                next++;
            }
            kinds[size] = NUMBER;
            values[size] = value;
        }

        private void takeWord(byte[] text, int end) {
            int start = next;
            while (next < end && isSmallLetter(text[next])) {
                next++;
            }
            int letter = text[start] - 'a';
            if (next - start == 1 && letter < LETTERS) {
                kinds[size] = LETTER;
                values[size] = letter;
            } else {
                kinds[size] = kindOfWord(text, start);
            }
        }

        private int kindOfWord(byte[] text, int start) {
            if (isWord("left", text, start)) {
                return LEFT;
            }
            if (isWord("right", text, start)) {
                return RIGHT;
            }
            if (isWord("back", text, start)) {
                return BACK;
            }
            if (isWord("feel", text, start)) {
                return FEEL;
            }
            if (isWord("try", text, start)) {
                return TRY;
            }
            if (isWord("again", text, start)) {
                return AGAIN;
            }
            return isWord("each", text, start) ? EACH : NO_TOKEN;
        }

        private boolean isWord(String word, byte[] text, int start) {
            if (next - start != word.length()) {
                return false;
            }
            for (int k = 0; k < word.length(); k++) {
                if (text[start + k] != word.charAt(k)) {
                    return false;
                }
            }
            return true;
        }

        private static boolean isSmallLetter(int sign) {
            return sign >= 'a' && sign <= 'z';
        }

        private static boolean isDigit(int sign) {
            return sign >= '0' && sign <= '9';
        }
    }

    /** Reads a text into rows of statements, or finds its first fault. */
    private static final class Reader {
        private static final int NO_FAULT = 0;
        private static final int MISPLACED = 1;
        private static final int TOO_MUCH = 2;
        private static final int WRONG_LETTER = 3;

        private static final int MOST_STATEMENTS = 60;
        private static final int MOST_NESTED = 5;

        private final Tokens tokens = new Tokens();
        private final int[] words = new int[MOST_STATEMENTS];
        // How often; of an each its step.
        private final int[] times = new int[MOST_STATEMENTS];
        private final int[] eachLetters = new int[MOST_STATEMENTS];
        // The statement that comes behind this one and all that it holds.
        private final int[] ends = new int[MOST_STATEMENTS];
        // Two of each statement: where to, or from and to of an each. Without a letter it is NONE.
        private final int[] placeLetters = new int[2 * MOST_STATEMENTS];
        private final int[] placeNumbers = new int[2 * MOST_STATEMENTS];
        private final int[] nested = new int[MOST_NESTED];
        private int size;
        private int depth;
        private int lettersAround;
        private int at;
        private int token;
        private int fault;
        private int faultAt = NONE;

        private void readText(byte[] text, int length) {
            tokens.split(text, length);
            size = 0;
            depth = 0;
            lettersAround = 0;
            fault = NO_FAULT;
            faultAt = NONE;
            at = 0;
            token = tokens.kinds[0];
            for (int k = 0; k < tokens.size && fault == NO_FAULT && token != Tokens.END_OF_TEXT; k++) {
                if (token == ')') {
                    readClosing();
                } else {
                    readStatement();
                }
            }
            if (depth > 0) {
                refuse(MISPLACED);
            }
        }

        /** Reading goes along the text, so the first refusal is the fault; what is read behind it is of no use. */
        private void refuse(int kind) {
            if (fault == NO_FAULT) {
                fault = kind;
                faultAt = tokens.starts[at];
            }
        }

        private void goOn() {
            if (at + 1 < tokens.size) {
                at++;
            }
            token = tokens.kinds[at];
        }

        private void readStatement() {
            if (token < Tokens.LEFT || token > Tokens.EACH) {
                refuse(MISPLACED);
                return;
            }
            if (size >= MOST_STATEMENTS) {
                refuse(TOO_MUCH);
                return;
            }
            int statement = size;
            words[statement] = token;
            size++;
            ends[statement] = size;
            goOn();
            readRest(statement);
            if (words[statement] < Tokens.AGAIN) {
                readSign(';');
            } else {
                readOpening(statement);
            }
        }

        private void readRest(int statement) {
            switch (words[statement]) {
                case Tokens.LEFT:
                case Tokens.RIGHT:
                    times[statement] = readNumber(1, 9);
                    readPlace(2 * statement);
                    break;
                case Tokens.BACK:
                    readPlace(2 * statement);
                    break;
                case Tokens.AGAIN:
                    times[statement] = readNumber(0, 99);
                    break;
                case Tokens.EACH:
                    eachLetters[statement] = readNewLetter();
                    readPlace(2 * statement);
                    readPlace(2 * statement + 1);
                    times[statement] = readNumber(1, 99);
                    break;
                default:
                    break;
            }
        }

        private void readOpening(int statement) {
            if (token == '(' && depth >= MOST_NESTED) {
                refuse(TOO_MUCH);
            }
            readSign('(');
            if (fault != NO_FAULT) {
                return;
            }
            nested[depth] = statement;
            depth++;
            if (words[statement] == Tokens.EACH) {
                lettersAround |= 1 << eachLetters[statement];
            }
        }

        private void readClosing() {
            if (depth == 0) {
                refuse(MISPLACED);
                return;
            }
            depth--;
            int closed = nested[depth];
            ends[closed] = size;
            if (words[closed] == Tokens.EACH) {
                lettersAround &= ~(1 << eachLetters[closed]);
            }
            goOn();
        }

        private void readSign(char sign) {
            if (token != sign) {
                refuse(MISPLACED);
                return;
            }
            goOn();
        }

        private int readNumber(int least, int most) {
            if (token != Tokens.NUMBER) {
                refuse(MISPLACED);
                return least;
            }
            int number = tokens.values[at];
            if (number < least || number > most) {
                refuse(TOO_MUCH);
                return least;
            }
            goOn();
            return number;
        }

        private int readNewLetter() {
            if (token != Tokens.LETTER) {
                refuse(MISPLACED);
                return 0;
            }
            int letter = tokens.values[at];
            if (isLetterAround(letter)) {
                refuse(WRONG_LETTER);
            }
            goOn();
            return letter;
        }

        private void readPlace(int place) {
            placeLetters[place] = NONE;
            if (token != Tokens.LETTER) {
                placeNumbers[place] = readNumber(0, Tokens.MOST_IN_NUMBER);
                return;
            }
            int letter = tokens.values[at];
            if (!isLetterAround(letter)) {
                refuse(WRONG_LETTER);
            }
            placeLetters[place] = letter;
            placeNumbers[place] = 0;
            goOn();
            if (token == '+') {
                goOn();
                placeNumbers[place] = readNumber(0, Tokens.MOST_IN_NUMBER);
            } else if (token == '-') {
                goOn();
                placeNumbers[place] = -readNumber(0, Tokens.MOST_IN_NUMBER);
            }
        }

        private boolean isLetterAround(int letter) {
            return (lettersAround >> letter & 1) == 1;
        }
    }

    /** Does the statements that a reader has read. */
    private static final class Runner {
        private static final int GOES_ON = 0;
        private static final int SPENT = 1;
        private static final int MOST_STEPS = 100000;
        private static final int MOST_DONE = 5000;

        private final Safe safe;
        private final Feels feels;
        private final Reader reader;
        private final int[] letters = new int[Tokens.LETTERS];
        private int steps;
        private int done;
        private int tries;

        private Runner(Safe safe, Feels feels, Reader reader) {
            this.safe = safe;
            this.feels = feels;
            this.reader = reader;
        }

        private void forget() {
            steps = 0;
            done = 0;
            tries = 0;
        }

        private int runRow(int from, int end, int depth) {
            if (depth > Reader.MOST_NESTED || end > reader.size) {
                return SPENT;
            }
            int statement = from;
            while (statement < end) {
                int outcome = runStatement(statement, depth);
                if (outcome != GOES_ON) {
                    return outcome;
                }
                statement = Math.max(statement + 1, reader.ends[statement]);
            }
            return GOES_ON;
        }

        private int runStatement(int statement, int depth) {
            boolean left = goesLeft(statement);
            int more = stepsOf(statement, left);
            if (done + 1 > MOST_DONE || steps + more > MOST_STEPS) {
                return SPENT;
            }
            done++;
            steps += more;
            safe.train.spin(more, left);
            switch (reader.words[statement]) {
                case Tokens.FEEL:
                    feels.note(safe);
                    return GOES_ON;
                case Tokens.TRY:
                    tries++;
                    return outcomeOfTry(safe.tryLever());
                case Tokens.AGAIN:
                    return runAgain(statement, depth);
                case Tokens.EACH:
                    return runEach(statement, depth);
                default:
                    return GOES_ON;
            }
        }

        private boolean goesLeft(int statement) {
            int word = reader.words[statement];
            return word == Tokens.LEFT || word == Tokens.BACK && !safe.train.latestLeft;
        }

        private int stepsOf(int statement, boolean left) {
            int word = reader.words[statement];
            if (word > Tokens.BACK) {
                return 0;
            }
            int place = valueOf(2 * statement);
            if (word == Tokens.BACK) {
                return place == safe.train.number ? 0 : safe.train.stepsTo(place, left, 1);
            }
            return safe.train.stepsTo(place, left, reader.times[statement]);
        }

        /** A turning has one answer more ahead of those that open than a try has. */
        private static int outcomeOfTry(int answer) {
            return answer == Safe.SHUT ? GOES_ON : answer + 1;
        }

        private int runAgain(int statement, int depth) {
            for (int time = 0; time < reader.times[statement]; time++) {
                int outcome = runRow(statement + 1, reader.ends[statement], depth + 1);
                if (outcome != GOES_ON) {
                    return outcome;
                }
            }
            return GOES_ON;
        }

        private int runEach(int statement, int depth) {
            int first = valueOf(2 * statement);
            int way = safe.train.wrap(valueOf(2 * statement + 1) - first);
            int stride = Math.max(1, reader.times[statement]);
            for (int gone = 0; gone <= way; gone += stride) {
                letters[reader.eachLetters[statement]] = safe.train.wrap(first + gone);
                int outcome = runRow(statement + 1, reader.ends[statement], depth + 1);
                if (outcome != GOES_ON) {
                    return outcome;
                }
            }
            return GOES_ON;
        }

        private int valueOf(int place) {
            int letter = reader.placeLetters[place];
            int base = letter == NONE ? 0 : letters[letter];
            return safe.train.wrap(base + reader.placeNumbers[place]);
        }
    }

    /** Which gates the feels leave to a wheel, and the fewest places that cover these. */
    private static final class Finder {
        private static final int TOO_MANY = 1000;

        private final Safe safe;
        private final Feels feels;
        private final boolean[] possible = new boolean[MOST_NUMBERS];
        private final int[] row = new int[MOST_NUMBERS];
        private int rowSize;
        private int slack;

        private Finder(Safe safe, Feels feels) {
            this.safe = safe;
            this.feels = feels;
        }

        private void weighGates(int wheel) {
            for (int g = 0; g < safe.train.numbers; g++) {
                possible[g] = isPossible(wheel, g);
            }
        }

        private boolean isPossible(int wheel, int g) {
            int others = safe.greatestHighBut(wheel);
            int own = safe.wheels[wheel].slack;
            for (int k = 0; k < feels.size; k++) {
                int place = feels.placeOf(k, wheel);
                int far = safe.train.far(place, g);
                if (far <= own && feels.heights[k] - feels.doubt > others) {
                    return false;
                }
                if (far > own + 1 && feels.heights[k] + feels.doubt < safe.radiusWithoutGates(wheel, place)) {
                    return false;
                }
            }
            return true;
        }

        private int countPossible() {
            int found = 0;
            for (int g = 0; g < safe.train.numbers; g++) {
                found += possible[g] ? 1 : 0;
            }
            return found;
        }

        private int possibleAt(int k) {
            int left = k;
            for (int g = 0; g < safe.train.numbers && left >= 0; g++) {
                if (possible[g] && left == 0) {
                    return g;
                }
                left -= possible[g] ? 1 : 0;
            }
            return NONE;
        }

        /**
         * The round of gates is cut open at the row's least place: what is behind its reach counts on past the
         * dial's end, up to its reach from the other side, and no later place may stand past the dial's end.
         */
        private void layOut(int wheel) {
            weighGates(wheel);
            slack = safe.wheels[wheel].slack;
            rowSize = 0;
            if (countPossible() == 0) {
                return;
            }
            int numbers = safe.train.numbers;
            int fewest = TOO_MANY;
            int first = 0;
            for (int place = 0; place < numbers; place++) {
                int needed = 1 + fewestBehind(place, lastFrom(place));
                if (needed < fewest) {
                    fewest = needed;
                    first = place;
                }
            }
            row[0] = first;
            rowSize = 1;
            while (rowSize < fewest && rowSize < numbers) {
                row[rowSize] = nextPlace(row[rowSize - 1], lastFrom(first), fewest - rowSize - 1);
                rowSize++;
            }
        }

        private int lastFrom(int firstPlace) {
            return firstPlace + safe.train.numbers - slack - 1;
        }

        private int firstOpenBehind(int place, int last) {
            for (int g = place + slack + 1; g <= last; g++) {
                if (possible[safe.train.wrap(g)]) {
                    return g;
                }
            }
            return NONE;
        }

        /** Each further place stands as far on as it can and still covers the first gate that is open. */
        private int fewestBehind(int place, int last) {
            int at = place;
            for (int places = 0; places <= MOST_NUMBERS; places++) {
                int open = firstOpenBehind(at, last);
                if (open == NONE) {
                    return places;
                }
                if (open - slack >= safe.train.numbers) {
                    return TOO_MANY;
                }
                at = farthestFor(open);
            }
            return TOO_MANY;
        }

        private int farthestFor(int gate) {
            return Math.min(gate + slack, safe.train.numbers - 1);
        }

        private int nextPlace(int place, int last, int allowedBehind) {
            int open = firstOpenBehind(place, last);
            int farthest = farthestFor(open);
            for (int tried = open - slack; tried < farthest; tried++) {
                if (fewestBehind(tried, last) <= allowedBehind) {
                    return tried;
                }
            }
            return farthest;
        }
    }

    /** Goes through all rows of the covers' places, on a train of its own. */
    private static final class Seeker {
        private static final int MOST_ROWS = 400;

        private final Safe safe;
        private final Finder finder;
        private final Train trial = new Train();
        private final int[][] places = new int[MOST_WHEELS][MOST_NUMBERS];
        private final int[] sizes = new int[MOST_WHEELS];
        private final int[] chosen = new int[MOST_WHEELS];
        private int rows;
        private int fallingBits;
        private int tries;
        private long steps;
        private long stepsUntilFound;
        private int bestBits;
        private long bestSteps;

        private Seeker(Safe safe, Finder finder) {
            this.safe = safe;
            this.finder = finder;
        }

        private boolean gatherCovers() {
            rows = 1;
            for (int w = 0; w < safe.train.size; w++) {
                finder.layOut(w);
                sizes[w] = finder.rowSize;
                for (int k = 0; k < finder.rowSize; k++) {
                    places[w][k] = finder.row[k];
                }
                rows *= sizes[w];
            }
            return rows <= MOST_ROWS;
        }

        private void goThroughRows(int bits) {
            fallingBits = bits;
            trial.becomeLike(safe.train);
            trial.goHome();
            for (int w = 0; w < MOST_WHEELS; w++) {
                chosen[w] = 0;
            }
            steps = 0;
            tries = 0;
            int changed = trial.size - 1;
            for (int row = 1; row <= rows; row++) {
                setWheelsFrom(changed);
                if (tries == 0 && isRight()) {
                    tries = row;
                    stepsUntilFound = steps;
                }
                changed = chooseNextRow();
            }
            if (tries == 0) {
                tries = rows;
                stepsUntilFound = steps;
            }
        }

        private void setWheelsFrom(int wheel) {
            for (int w = wheel; w >= 0; w--) {
                boolean left = (trial.size - 1 - w) % 2 == 0;
                int more = trial.stepsToSet(w, placeOf(w), left);
                trial.spin(more, left);
                steps += more;
            }
        }

        private int placeOf(int wheel) {
            boolean falling = (fallingBits >> wheel & 1) == 1;
            int k = falling ? sizes[wheel] - 1 - chosen[wheel] : chosen[wheel];
            return places[wheel][k];
        }

        private boolean isRight() {
            for (int w = 0; w < trial.size; w++) {
                if (trial.far(placeOf(w), safe.wheels[w].gate) > safe.wheels[w].slack) {
                    return false;
                }
            }
            return true;
        }

        /** The last wheel whose place is another one now; all behind it stay. */
        private int chooseNextRow() {
            for (int w = 0; w < trial.size; w++) {
                chosen[w]++;
                if (chosen[w] < sizes[w]) {
                    return w;
                }
                chosen[w] = 0;
            }
            return NONE;
        }

        private void chooseOrder() {
            bestBits = 0;
            bestSteps = Long.MAX_VALUE;
            for (int bits = 0; bits < 1 << safe.train.size; bits++) {
                goThroughRows(bits);
                if (steps < bestSteps) {
                    bestSteps = steps;
                    bestBits = bits;
                }
            }
        }
    }

    /** Gates set anew, in the order in which they were. */
    private static final class Changes {
        // An object has at most 512 calls, so more changes than these are never due.
        private static final int MOST = 512;

        private final int[] wheels = new int[MOST];
        private final int[] dates = new int[MOST];
        private final int[] gates = new int[MOST];
        private int size;

        private boolean note(int wheel, int day, int gate) {
            if (size >= MOST) {
                return false;
            }
            wheels[size] = wheel;
            dates[size] = day;
            gates[size] = gate;
            size++;
            return true;
        }

        private int gateAtEndOf(int day, int wheel, int firstGate) {
            for (int k = size - 1; k >= 0; k--) {
                if (wheels[k] == wheel && dates[k] <= day) {
                    return gates[k];
                }
            }
            return firstGate;
        }
    }

    /** What persons were told, what they forgot, and what was struck. */
    private static final class Words {
        private static final int MOST = 80;
        private static final int STRIKE = -1;

        private final Safe safe;
        private final Changes changes;
        private final int[] persons = new int[MOST];
        private final int[] wheels = new int[MOST];
        // A gate told, NONE for one forgotten; of a strike the word that it strikes.
        private final int[] contents = new int[MOST];
        private final int[] dates = new int[MOST];
        private final boolean[] struck = new boolean[MOST];
        private final int[] knownWheels = new int[PERSONS];
        private int size;

        private Words(Safe safe, Changes changes) {
            this.safe = safe;
            this.changes = changes;
        }

        private int note(int person, int wheel, int content, int day) {
            if (size >= MOST) {
                return NONE;
            }
            persons[size] = person;
            wheels[size] = wheel;
            contents[size] = content;
            dates[size] = day;
            size++;
            return size - 1;
        }

        /** From the last word on: a strike strikes only what is ahead of it, so by then it is known if it counts. */
        private void markStruck(int known) {
            for (int k = 0; k < size; k++) {
                struck[k] = false;
            }
            for (int k = size - 1; k >= 0; k--) {
                if (persons[k] == STRIKE && dates[k] <= known && !struck[k]) {
                    struck[contents[k]] = true;
                }
            }
        }

        private int wheelsKnownTo(int person, int day) {
            int bits = 0;
            for (int w = 0; w < safe.train.size; w++) {
                if (isKnownTo(person, w, day)) {
                    bits |= 1 << w;
                }
            }
            return bits;
        }

        private boolean isKnownTo(int person, int wheel, int day) {
            for (int k = size - 1; k >= 0; k--) {
                if (persons[k] == person && wheels[k] == wheel && dates[k] <= day && !struck[k]) {
                    return contents[k] != NONE && isNearGate(contents[k], wheel, day);
                }
            }
            return false;
        }

        private boolean isNearGate(int told, int wheel, int day) {
            Wheel shape = safe.wheels[wheel];
            int gate = changes.gateAtEndOf(day, wheel, shape.firstGate);
            return safe.train.far(told, gate) <= shape.slack;
        }

        private int fewestWhoCan(int day) {
            for (int person = 0; person < PERSONS; person++) {
                knownWheels[person] = wheelsKnownTo(person, day);
            }
            int all = (1 << safe.train.size) - 1;
            int best = 0;
            for (int bits = 1; bits < 1 << PERSONS && all != 0; bits++) {
                boolean fewer = best == 0 || Integer.bitCount(bits) < Integer.bitCount(best);
                if (fewer && wheelsKnownToAll(bits) == all) {
                    best = bits;
                }
            }
            return best;
        }

        private int wheelsKnownToAll(int personBits) {
            int known = 0;
            for (int person = 0; person < PERSONS; person++) {
                if ((personBits >> person & 1) == 1) {
                    known |= knownWheels[person];
                }
            }
            return known;
        }
    }
}
