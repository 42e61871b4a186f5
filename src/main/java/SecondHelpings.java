import java.util.NoSuchElementException;

/**
 * Second helpings are inheritance: a table of persons, dishes and plates, told as a text, and what
 * becomes of it at meals. README.md tells how to use it; the promises are those of DOC.md, whose
 * words in capitals (PERSON, DISH, MEAL, HEIR ..) are used here in the same sense.
 *
 * <p>All rows are made once, in the constructor: a call makes no object.
 */
public final class SecondHelpings {
    public static final int NONE = -1;

    private static final int MOST_PERSONS = 7;
    private static final int MOST_DISHES = 6;
    private static final int MOST_MEALS = 200;
    private static final int MOST_MEALS_AT_ONCE = 60;
    private static final int MOST_EATEN_AT_ONCE = 20;
    private static final int MOST_SERVED_AT_ONCE = 40;
    private static final int MOST_UNDONE = 8;
    private static final int MOST_SEEDS = 30;
    private static final int MEALS_OF_ODDS = 10;
    private static final int IMAGES = 2;
    /** Above all that PERSONS can want, and all sets of them: what is looked for is less. */
    private static final int MORE_THAN_ALL = 1000;

    private static final int BYTES_OF_FEED = 20;
    private static final int BYTES_OF_TAPE = 940;
    private static final int BYTES_OF_TABLE = 900;
    private static final int BYTES_OF_BOOK = 400;
    private static final int BYTES_OF_SENTENCE = 200;
    private static final int BYTES_OF_WILL = 40;

    private static final int LAW_NEXT = 0;
    private static final int LAW_CHILD = 1;
    private static final int LAW_LEAST = 2;

    private static final int LIVES_NOT = 0;
    private static final int LIVES = 1;
    private static final int OTHER_LIVES = -1000;

    private final Tape tape = new Tape();
    private final Table heard = new Table();
    private final Course course = new Course(heard);
    private final Course trial = new Course(heard);
    private final Past past = new Past(heard);
    private final TableReader tableReader = new TableReader();
    private final Book latestBook = new Book();
    private final Sentence saying = new Sentence();
    private final Sentence draft = new Sentence();
    private final Order latestOrder = new Order(heard);
    private final Seating latestSeats = new Seating();
    private final Guess latestGuess = new Guess();
    private final Image[] images = new Image[IMAGES];
    private final byte[] willBytes = new byte[BYTES_OF_WILL];
    private int willLength = 0;

    public SecondHelpings() {
        for (int k = 0; k < IMAGES; k++) {
            images[k] = new Image();
        }
    }

    // ---- the tape and the TABLE

    public int feed(int a, int b, int c, int d, int e) {
        if (tape.length > BYTES_OF_TAPE - BYTES_OF_FEED) {
            return NONE;
        }
        tape.add(a);
        tape.add(b);
        tape.add(c);
        tape.add(d);
        tape.add(e);
        return tape.length;
    }

    public boolean end(int n) {
        if (n < 0 || n > tape.length) {
            return false;
        }
        tape.length = n;
        return true;
    }

    public int table() {
        int lines = tableReader.readFrom(tape);
        tape.length = 0;
        if (tape.fault != 0) {
            return -1 - tape.faultAt;
        }
        heard.become(tableReader.heard);
        course.become(tableReader.start);
        saying.forget();
        past.forget();
        return lines;
    }

    public int fault() {
        return tape.fault;
    }

    // ---- what is so

    public int person(int p, int what) throws NoSuchElementException {
        if (!heard.hasPerson(p)) {
            throw new NoSuchElementException("no such person");
        }
        switch (what) {
            case 0:
                return heard.wants[p];
            case 1:
                return heard.parents[p];
            case 2:
                return course.dead >> p & 1;
            case 3:
                return course.refusing >> p & 1;
            case 4:
                return course.eaten[p];
            case 5:
                return course.atMeal[p];
            case 6:
                return course.hunger[p];
            case 7:
                return course.loads[p];
            case 8:
                return heard.childrenOf(p);
            default:
                throw new NoSuchElementException("nothing such is known of a person");
        }
    }

    public int plate(int p, int d) {
        if (!heard.hasPerson(p) || !heard.hasDish(d)) {
            return NONE;
        }
        return course.onPlate(p, d);
    }

    public int dish(int d, int what) {
        if (!heard.hasDish(d)) {
            return NONE;
        }
        switch (what) {
            case 0:
                return course.parts[d];
            case 1:
                return heard.spoils[d];
            case 2:
                return course.onPlatesOf(heard.everybody(), d);
            default:
                return NONE;
        }
    }

    public int now(int what) {
        switch (what) {
            case 0:
                return course.meal;
            case 1:
                return course.dead;
            case 2:
                return course.refusing;
            case 3:
                return course.dogsHad;
            case 4:
                return course.spoiled;
            case 5:
                return course.allEaten();
            case 6:
                return course.allHunger();
            case 7:
                return course.passes;
            default:
                return NONE;
        }
    }

    public int count(int what) {
        switch (what) {
            case 0:
                return heard.persons;
            case 1:
                return heard.dishes;
            case 2:
                return heard.law;
            case 3:
                return heard.dogs;
            case 4:
                return tape.length;
            default:
                return NONE;
        }
    }

    // ---- what is done, and undone

    public int eat(int p, int d, int n) {
        if (!heard.hasPerson(p) || !heard.hasDish(d) || n < 1 || n > MOST_EATEN_AT_ONCE) {
            return NONE;
        }
        past.note(course);
        return keptIfDone(course.tryToEat(p, d, n));
    }

    public int serve(int p, int d, int n) {
        if (!heard.hasPerson(p) || !heard.hasDish(d) || n < 1 || n > MOST_SERVED_AT_ONCE) {
            return NONE;
        }
        past.note(course);
        return keptIfDone(course.tryToServe(p, d, n));
    }

    public int rise(int p) {
        if (!heard.hasPerson(p)) {
            return NONE;
        }
        past.note(course);
        return keptIfDone(course.tryToRise(p));
    }

    public int refuse(int p) {
        if (!heard.hasPerson(p)) {
            return NONE;
        }
        past.note(course);
        return keptIfDone(course.tryToRefuse(p));
    }

    public int accept(int p) {
        if (!heard.hasPerson(p)) {
            return NONE;
        }
        past.note(course);
        return keptIfDone(course.tryToAccept(p));
    }

    public int die(int p) {
        if (!heard.hasPerson(p)) {
            return NONE;
        }
        past.note(course);
        return keptIfDone(course.tryToDie(p));
    }

    public int meals(int n) {
        if (n < 1 || n > MOST_MEALS_AT_ONCE) {
            return NONE;
        }
        past.note(course);
        return keptIfAny(course.letMealsGo(n));
    }

    public int undo() {
        return past.takeBack(course);
    }

    private int keptIfDone(int whyNot) {
        if (whyNot == 0) {
            past.keepNoted();
        }
        return whyNot;
    }

    private int keptIfAny(int mealsGone) {
        if (mealsGone > 0) {
            past.keepNoted();
        }
        return mealsGone;
    }

    // ---- what is asked

    public int heir(int p) {
        return heard.hasPerson(p) ? course.heirOf(p, course.refusing) : NONE;
    }

    public int line(int p, int k) {
        if (!heard.hasPerson(p) || k < 0 || k >= MOST_PERSONS) {
            return NONE;
        }
        int refusing = course.refusing;
        int one = course.heirOf(p, refusing);
        for (int i = 0; i < k && one != NONE; i++) {
            refusing |= 1 << one;
            one = course.heirOf(p, refusing);
        }
        return one;
    }

    public int order() {
        return latestOrder.findFrom(course);
    }

    public int orderAt(int k) {
        return k >= 0 && k < latestOrder.places ? latestOrder.best[k] : NONE;
    }

    public int eaters() {
        boolean asTold = tape.length == 2;
        int d = tape.byteOf(0);
        int parts = tape.byteOf(1);
        tape.length = 0;
        return asTold && heard.hasDish(d) ? latestGuess.setsWith(course, d, parts) : NONE;
    }

    public int surely() {
        return latestGuess.inEach;
    }

    public int ask() {
        return latestGuess.toAsk;
    }

    public int share(int d, int set, int p) {
        boolean such = heard.hasDish(d) && heard.hasPerson(p) && (set & ~heard.everybody()) == 0;
        if (!such || (set >> p & 1) == 0) {
            return NONE;
        }
        return heard.shareOf(course.parts[d], set, p);
    }

    public int last(int d) {
        if (!heard.hasDish(d)) {
            return NONE;
        }
        // Who finds 1, 5, 9 .. parts can't win: whatever he takes, the other one fills it up to 4.
        return course.parts[d] == 0 ? 0 : (course.parts[d] + 3) % 4;
    }

    public int seats() {
        return latestSeats.seat(course);
    }

    public int seatAt(int k) {
        return k >= 0 && k < latestSeats.places ? latestSeats.row[k] : NONE;
    }

    public int left(int p) {
        boolean asTold = heard.hasPerson(p) && tape.length >= 1 && tape.length <= MOST_PERSONS;
        trial.become(course);
        for (int i = 0; i < tape.length && asTold; i++) {
            int q = tape.byteOf(i);
            asTold = heard.hasPerson(q);
            if (asTold) {
                trial.tryToDie(q);
            }
        }
        tape.length = 0;
        return asTold ? trial.loads[p] : NONE;
    }

    public int kin(int p, int q) {
        return heard.hasPerson(p) && heard.hasPerson(q) ? heard.stepsBetween(p, q) : NONE;
    }

    public int hungriest() {
        int most = NONE;
        for (int p = 0; p < heard.persons; p++) {
            if (course.lives(p) && (most == NONE || course.hunger[p] > course.hunger[most])) {
                most = p;
            }
        }
        return most;
    }

    public int will(int p) {
        if (!heard.hasPerson(p)) {
            return NONE;
        }
        int parts = course.loads[p];
        int heir = course.heirOf(p, course.refusing);
        willLength = 0;
        writeName(heard.personNames[p]);
        if (parts == 0) {
            write(" leaves nothing");
        } else {
            write(" leaves ");
            writeNumber(parts);
            if (heir == NONE) {
                write(" to nobody");
            } else {
                write(" to ");
                writeName(heard.personNames[heir]);
            }
        }
        return willLength;
    }

    public int byteAt(int i) {
        return i >= 0 && i < willLength ? willBytes[i] : NONE;
    }

    private void writeByte(int sign) {
        if (willLength < willBytes.length) {
            willBytes[willLength] = (byte) sign;
            willLength++;
        }
    }

    private void write(String text) {
        for (int i = 0; i < text.length(); i++) {
            writeByte(text.charAt(i));
        }
    }

    private void writeNumber(int number) {
        int power = 1;
        for (int i = 0; i < 8 && number / power >= 10; i++) {
            power *= 10;
        }
        for (int i = 0; i < 9 && power > 0; i++) {
            writeByte('0' + number / power % 10);
            power /= 10;
        }
    }

    private void writeName(long name) {
        for (int i = Tape.MOST_LETTERS - 1; i >= 0; i--) {
            int letter = (int) (name >> i * Tape.BITS_OF_LETTER) & Tape.LETTER;
            if (letter != 0) {
                writeByte('a' + letter - 1);
            }
        }
    }

    // ---- MEALS by draws

    public int drawn(int n, int seed) {
        if (n < 1 || n > MOST_MEALS_AT_ONCE || heard.persons == 0) {
            return NONE;
        }
        past.note(course);
        return keptIfAny(course.drawMeals(n, seed));
    }

    public int odds(int p, int n, int seed) {
        if (!heard.hasPerson(p) || n < 1 || n > MOST_SEEDS) {
            return NONE;
        }
        int lived = 0;
        for (int i = 0; i < n; i++) {
            trial.become(course);
            trial.drawMeals(MEALS_OF_ODDS, seed + i);
            if (trial.lives(p)) {
                lived++;
            }
        }
        return lived;
    }

    // ---- the BOOK and the SENTENCE

    public int book(int lives) {
        if (lives != LIVES_NOT && lives != LIVES) {
            return OTHER_LIVES;
        }
        latestBook.readFrom(tape, heard);
        tape.length = 0;
        if (tape.fault != 0) {
            return -2 - tape.faultAt;
        }
        trial.become(course);
        latestBook.judgeBy(trial);
        if (lives == LIVES) {
            past.note(course);
            past.keepNoted();
            course.become(trial);
        }
        return latestBook.whyWrong == 0 ? NONE : latestBook.goodLines;
    }

    public int told(int what) {
        if (!latestBook.judged) {
            return NONE;
        }
        switch (what) {
            case 0:
                return latestBook.whyWrong;
            case 1:
                return latestBook.goodLines;
            case 2:
                return latestBook.mealThen;
            case 3:
                return latestBook.deadThen;
            default:
                return NONE;
        }
    }

    public int sentence() {
        draft.readFrom(tape, heard);
        tape.length = 0;
        if (tape.fault != 0) {
            return -1 - tape.faultAt;
        }
        saying.become(draft);
        return saying.ones;
    }

    public int said(int k) {
        if (saying.ones == 0) {
            return NONE;
        }
        int those = saying.personsIn(course);
        if (k == NONE) {
            return Integer.bitCount(those);
        }
        int before = 0;
        for (int p = 0; p < heard.persons; p++) {
            if ((those >> p & 1) != 0) {
                if (before == k) {
                    return p;
                }
                before++;
            }
        }
        return NONE;
    }

    // ---- images

    public boolean image(int k) {
        if (k < 0 || k >= IMAGES) {
            return false;
        }
        images[k].keep(heard, course, saying);
        return true;
    }

    public boolean restore(int k) {
        if (k < 0 || k >= IMAGES || !images[k].kept) {
            return false;
        }
        heard.become(images[k].heard);
        course.become(images[k].course);
        saying.become(images[k].saying);
        past.forget();
        return true;
    }

    // ---- the classes inside

    /** The tape, its TOKENS one at a time, and the first FAULT of the text that is read. */
    private static final class Tape {
        static final int MOST_LETTERS = 7;
        static final int MOST_DIGITS = 3;
        static final int BITS_OF_LETTER = 5;
        static final int LETTER = 31;

        /** The WORDS that are no NAMES; a TOKEN of such a one is its place here. */
        static final String WORDS = "person dish plate law dogs of spoils next child least eats served rises refuses accepts dies meal or and not dead refused clean has wants eaten hunger number ";
        static final int WORDS_IN_ALL = 28;
        static final int PERSON = 0;
        static final int DISH = 1;
        static final int PLATE = 2;
        static final int LAW = 3;
        static final int DOGS = 4;
        static final int OF = 5;
        static final int SPOILS = 6;
        static final int NEXT = 7;
        static final int CHILD = 8;
        static final int LEAST = 9;
        static final int EATS = 10;
        static final int SERVED = 11;
        static final int RISES = 12;
        static final int REFUSES = 13;
        static final int ACCEPTS = 14;
        static final int DIES = 15;
        static final int MEAL = 16;
        static final int OR = 17;
        static final int AND = 18;
        static final int NOT = 19;
        static final int DEAD = 20;
        static final int REFUSED = 21;
        static final int CLEAN = 22;
        static final int HAS = 23;
        static final int WANTS = 24;
        static final int EATEN = 25;
        static final int HUNGER = 26;
        static final int NUMBER_OF = 27;

        /** Other TOKENS; the signs ; < = > ( ) are their own bytes, which lie between. */
        static final int NAME = 100;
        static final int NUMBER = 101;
        static final int END = 102;
        static final int NO_TOKEN = 103;

        static final int CANT_COME = 1;
        static final int WRONG_NUMBER = 2;
        static final int WRONG_NAME = 3;
        static final int TOO_MANY = 4;

        final byte[] bytes = new byte[BYTES_OF_TAPE];
        final long[] words = new long[WORDS_IN_ALL];
        final int[] tokens = new int[BYTES_OF_TABLE + 1];
        final int[] places = new int[BYTES_OF_TABLE + 1];
        final long[] values = new long[BYTES_OF_TABLE + 1];
        int length = 0;
        int read = 0;
        int at = 0;
        int token = END;
        int place = 0;
        long value = 0;
        int fault = 0;
        int faultAt = 0;

        Tape() {
            int known = 0;
            long letters = 0;
            for (int i = 0; i < WORDS.length() && known < WORDS_IN_ALL; i++) {
                if (WORDS.charAt(i) == ' ') {
                    words[known] = letters;
                    known++;
                    letters = 0;
                } else {
                    letters = withLetter(letters, WORDS.charAt(i));
                }
            }
        }

        /** A WORD as one number, so that NAMES are compared and kept without making texts. */
        private static long withLetter(long letters, int letter) {
            return letters << BITS_OF_LETTER | letter - 'a' + 1;
        }

        private static boolean isLetter(int sign) {
            return sign >= 'a' && sign <= 'z';
        }

        private static boolean isDigit(int sign) {
            return sign >= '0' && sign <= '9';
        }

        private static boolean isSign(int sign) {
            return sign == '(' || sign == ')' || sign >= ';' && sign <= '>';
        }

        void add(int four) {
            for (int shift = 24; shift >= 0 && length < bytes.length; shift -= 8) {
                bytes[length] = (byte) (four >> shift);
                length++;
            }
        }

        int byteOf(int i) {
            return i >= 0 && i < length && i < bytes.length ? bytes[i] & 255 : NONE;
        }

        /** All TOKENS are read ahead; the last one is the end, or what lies beyond the most bytes. */
        void begin(int mostBytes) {
            int bound = Math.min(Math.min(length, mostBytes), bytes.length);
            int behind = 0;
            read = 0;
            for (int i = 0; i < bound; i++) {
                if (i >= behind && bytes[i] != ' ' && bytes[i] != '\n') {
                    behind = readToken(i);
                }
            }
            addToken(length > mostBytes ? NO_TOKEN : END, bound, 0);
            fault = 0;
            faultAt = 0;
            at = -1;
            advance();
        }

        /** Answers the place behind it: a WORD or a NUMBER may go on beyond the most bytes. */
        private int readToken(int from) {
            int letters = 0;
            int digits = 0;
            long word = 0;
            int number = 0;
            int i = from;
            while (i < length && i < bytes.length && (isLetter(bytes[i]) || isDigit(bytes[i]))) {
                if (isLetter(bytes[i])) {
                    word = withLetter(word, bytes[i]);
                    letters++;
                } else {
                    number = number * 10 + bytes[i] - '0';
                    digits++;
                }
                i++;
            }
            if (i == from) {
                addToken(isSign(bytes[from]) ? bytes[from] : NO_TOKEN, from, 0);
                return from + 1;
            }
            if (digits == 0 && letters <= MOST_LETTERS) {
                addToken(tokenOfWord(word), from, word);
            } else if (letters == 0 && digits <= MOST_DIGITS) {
                addToken(NUMBER, from, number);
            } else {
                addToken(NO_TOKEN, from, 0);
            }
            return i;
        }

        private int tokenOfWord(long word) {
            for (int i = 0; i < WORDS_IN_ALL; i++) {
                if (words[i] == word) {
                    return i;
                }
            }
            return NAME;
        }

        private void addToken(int kind, int from, long itsValue) {
            if (read < tokens.length) {
                tokens[read] = kind;
                places[read] = from;
                values[read] = itsValue;
                read++;
            }
        }

        void advance() {
            if (at + 1 < read) {
                at++;
                token = tokens[at];
                place = places[at];
                value = values[at];
            }
        }

        /** Only the first FAULT counts: what reads a text stops at it. */
        boolean fail(int kind) {
            if (fault == 0) {
                fault = kind;
                faultAt = place;
            }
            return false;
        }

        boolean take(int wanted) {
            if (token != wanted) {
                return fail(CANT_COME);
            }
            advance();
            return true;
        }

        int takeNumber(int from, int to) {
            if (token != NUMBER) {
                fail(CANT_COME);
                return NONE;
            }
            if (value < from || value > to) {
                fail(WRONG_NUMBER);
                return NONE;
            }
            int taken = (int) value;
            advance();
            return taken;
        }

        /** Takes a NAME that was looked up already, and answers what was found. */
        int takeName(int found) {
            if (token != NAME) {
                fail(CANT_COME);
                return NONE;
            }
            if (found == NONE) {
                fail(WRONG_NAME);
                return NONE;
            }
            advance();
            return found;
        }
    }

    /** What the text of a TABLE tells of persons and dishes, and no act changes. */
    private static final class Table {
        final long[] personNames = new long[MOST_PERSONS];
        final int[] wants = new int[MOST_PERSONS];
        final int[] parents = new int[MOST_PERSONS];
        final long[] dishNames = new long[MOST_DISHES];
        final int[] spoils = new int[MOST_DISHES];
        int persons = 0;
        int dishes = 0;
        int law = LAW_NEXT;
        int dogs = 0;

        void forget() {
            persons = 0;
            dishes = 0;
            law = LAW_NEXT;
            dogs = 0;
        }

        void become(Table other) {
            System.arraycopy(other.personNames, 0, personNames, 0, MOST_PERSONS);
            System.arraycopy(other.wants, 0, wants, 0, MOST_PERSONS);
            System.arraycopy(other.parents, 0, parents, 0, MOST_PERSONS);
            System.arraycopy(other.dishNames, 0, dishNames, 0, MOST_DISHES);
            System.arraycopy(other.spoils, 0, spoils, 0, MOST_DISHES);
            persons = other.persons;
            dishes = other.dishes;
            law = other.law;
            dogs = other.dogs;
        }

        boolean hasPerson(int p) {
            return p >= 0 && p < persons;
        }

        boolean hasDish(int d) {
            return d >= 0 && d < dishes;
        }

        int everybody() {
            return (1 << persons) - 1;
        }

        int personNamed(long name) {
            for (int p = 0; p < persons; p++) {
                if (personNames[p] == name) {
                    return p;
                }
            }
            return NONE;
        }

        int dishNamed(long name) {
            for (int d = 0; d < dishes; d++) {
                if (dishNames[d] == name) {
                    return d;
                }
            }
            return NONE;
        }

        int childrenOf(int p) {
            int children = 0;
            for (int q = 0; q < persons; q++) {
                if (parents[q] == p) {
                    children |= 1 << q;
                }
            }
            return children;
        }

        /**
         * Parents are told ahead of their children, so of two the greater one is no ancestor of the
         * other one: the way between them goes by his parent.
         */
        int stepsBetween(int p, int q) {
            int one = p;
            int other = q;
            int steps = 0;
            while (one != other && steps < 2 * MOST_PERSONS) {
                int greater = Math.max(one, other);
                other = Math.min(one, other);
                one = greater >= 0 ? parents[greater] : NONE;
                if (one == NONE) {
                    return NONE;
                }
                steps++;
            }
            return steps;
        }

        int shareOf(int parts, int set, int p) {
            int wanted = 0;
            for (int q = 0; q < persons; q++) {
                wanted += (set >> q & 1) * wants[q];
            }
            if (wanted <= 0) {
                return 0;
            }
            int over = parts;
            int ahead = 0;
            int rest = parts * wants[p] % wanted;
            for (int q = 0; q < persons; q++) {
                if ((set >> q & 1) != 0) {
                    int restOfOther = parts * wants[q] % wanted;
                    over -= parts * wants[q] / wanted;
                    if (restOfOther > rest || restOfOther == rest && q < p) {
                        ahead++;
                    }
                }
            }
            return parts * wants[p] / wanted + (ahead < over ? 1 : 0);
        }
    }

    /** What is so at a TABLE: it changes by acts and by MEALS. */
    private static final class Course {
        static final int PLATES = MOST_PERSONS * MOST_DISHES;
        static final int IS_DEAD = 1;
        static final int TOO_FEW = 2;
        static final int TOO_MUCH = 3;
        static final int IS_SO = 2;

        final Table table;
        final int[] parts = new int[MOST_DISHES];
        final int[] plates = new int[PLATES];
        final int[] loads = new int[MOST_PERSONS];
        final int[] eaten = new int[MOST_PERSONS];
        final int[] atMeal = new int[MOST_PERSONS];
        final int[] hunger = new int[MOST_PERSONS];
        int dead = 0;
        int refusing = 0;
        int meal = 0;
        int dogsHad = 0;
        int spoiled = 0;
        int passes = 0;
        int seed = 0;

        Course(Table table) {
            this.table = table;
        }

        void forget() {
            for (int d = 0; d < MOST_DISHES; d++) {
                parts[d] = 0;
            }
            for (int i = 0; i < PLATES; i++) {
                plates[i] = 0;
            }
            for (int p = 0; p < MOST_PERSONS; p++) {
                loads[p] = 0;
                eaten[p] = 0;
                atMeal[p] = 0;
                hunger[p] = 0;
            }
            dead = 0;
            refusing = 0;
            meal = 0;
            dogsHad = 0;
            spoiled = 0;
            passes = 0;
        }

        void become(Course other) {
            System.arraycopy(other.parts, 0, parts, 0, MOST_DISHES);
            System.arraycopy(other.plates, 0, plates, 0, PLATES);
            System.arraycopy(other.loads, 0, loads, 0, MOST_PERSONS);
            System.arraycopy(other.eaten, 0, eaten, 0, MOST_PERSONS);
            System.arraycopy(other.atMeal, 0, atMeal, 0, MOST_PERSONS);
            System.arraycopy(other.hunger, 0, hunger, 0, MOST_PERSONS);
            dead = other.dead;
            refusing = other.refusing;
            meal = other.meal;
            dogsHad = other.dogsHad;
            spoiled = other.spoiled;
            passes = other.passes;
        }

        boolean lives(int p) {
            return (dead >> p & 1) == 0;
        }

        int living() {
            return table.everybody() & ~dead;
        }

        int onPlate(int p, int d) {
            return plates[p * MOST_DISHES + d];
        }

        /** The load of each plate is kept beside it, as an ORDER asks for it at every step. */
        void addToPlate(int p, int d, int n) {
            plates[p * MOST_DISHES + d] += n;
            loads[p] += n;
        }

        int onPlatesOf(int set, int d) {
            int sum = 0;
            for (int p = 0; p < table.persons; p++) {
                if ((set >> p & 1) != 0) {
                    sum += onPlate(p, d);
                }
            }
            return sum;
        }

        int wantsYet(int p) {
            return table.wants[p] - atMeal[p];
        }

        int allEaten() {
            int sum = 0;
            for (int p = 0; p < table.persons; p++) {
                sum += eaten[p];
            }
            return sum;
        }

        int allHunger() {
            int sum = 0;
            for (int p = 0; p < table.persons; p++) {
                sum += hunger[p];
            }
            return sum;
        }

        /** Who refuses is an argument, as a LINE asks for HEIRS while ever more ones refuse. */
        int heirOf(int p, int whoRefuse) {
            int able = table.everybody() & ~dead & ~whoRefuse & ~(1 << p);
            if (table.law == LAW_LEAST) {
                return leastFed(able);
            }
            // Children are told behind their parent: the first of them is the first one behind him.
            int ableChildren = table.law == LAW_CHILD ? able & table.childrenOf(p) : 0;
            return firstBehind(p, ableChildren != 0 ? ableChildren : able);
        }

        private int leastFed(int able) {
            int least = NONE;
            for (int q = 0; q < table.persons; q++) {
                if ((able >> q & 1) != 0 && (least == NONE || eaten[q] < eaten[least])) {
                    least = q;
                }
            }
            return least;
        }

        private int firstBehind(int p, int able) {
            int q = p;
            for (int i = 1; i < table.persons; i++) {
                q = q + 1 < table.persons ? q + 1 : 0;
                if ((able >> q & 1) != 0) {
                    return q;
                }
            }
            return NONE;
        }

        void passOn(int p) {
            int heir = heirOf(p, refusing);
            int forDogs = table.dogs;
            for (int d = 0; d < table.dishes; d++) {
                int there = onPlate(p, d);
                int bitten = Math.min(there, forDogs);
                forDogs -= bitten;
                dogsHad += bitten;
                addToPlate(p, d, -there);
                if (heir == NONE) {
                    parts[d] += there - bitten;
                } else {
                    addToPlate(heir, d, there - bitten);
                }
            }
            passes++;
        }

        private void eatUp(int p, int d, int n) {
            addToPlate(p, d, -n);
            eaten[p] += n;
            atMeal[p] += n;
        }

        void eatAll(int p) {
            for (int d = 0; d < table.dishes; d++) {
                eatUp(p, d, Math.min(onPlate(p, d), wantsYet(p)));
            }
        }

        int tryToEat(int p, int d, int n) {
            if (!lives(p)) {
                return IS_DEAD;
            }
            if (onPlate(p, d) < n) {
                return TOO_FEW;
            }
            if (wantsYet(p) < n) {
                return TOO_MUCH;
            }
            eatUp(p, d, n);
            return 0;
        }

        int tryToServe(int p, int d, int n) {
            if (!lives(p)) {
                return IS_DEAD;
            }
            if (parts[d] < n) {
                return TOO_FEW;
            }
            parts[d] -= n;
            addToPlate(p, d, n);
            return 0;
        }

        int tryToRise(int p) {
            if (!lives(p)) {
                return IS_DEAD;
            }
            if (loads[p] == 0) {
                return TOO_FEW;
            }
            passOn(p);
            return 0;
        }

        int tryToRefuse(int p) {
            if (!lives(p)) {
                return IS_DEAD;
            }
            if ((refusing >> p & 1) != 0) {
                return IS_SO;
            }
            refusing |= 1 << p;
            return 0;
        }

        int tryToAccept(int p) {
            if (!lives(p)) {
                return IS_DEAD;
            }
            if ((refusing >> p & 1) == 0) {
                return IS_SO;
            }
            refusing &= ~(1 << p);
            return 0;
        }

        int tryToDie(int p) {
            if (!lives(p)) {
                return IS_DEAD;
            }
            dead |= 1 << p;
            if (loads[p] > 0) {
                passOn(p);
            }
            return 0;
        }

        private void endMeal() {
            for (int p = 0; p < table.persons; p++) {
                if (lives(p)) {
                    hunger[p] += wantsYet(p);
                }
                atMeal[p] = 0;
                for (int d = 0; d < table.dishes; d++) {
                    int lost = Math.min(onPlate(p, d), table.spoils[d]);
                    addToPlate(p, d, -lost);
                    spoiled += lost;
                }
            }
            meal++;
        }

        int letMealsGo(int n) {
            int gone = 0;
            while (gone < n && meal < MOST_MEALS) {
                endMeal();
                gone++;
            }
            return gone;
        }

        private int draw(int n) {
            seed = seed * 1103515245 + 12345;
            return n > 0 ? (seed >>> 8) % n : 0;
        }

        private void actByDraw(int p) {
            int drawn = draw(6);
            if (drawn == 0) {
                tryToRise(p);
            } else if (drawn > 1) {
                eatAll(p);
            } else if (draw(4) == 0) {
                tryToDie(p);
            }
        }

        int drawMeals(int n, int firstSeed) {
            seed = firstSeed;
            int gone = 0;
            while (gone < n && meal < MOST_MEALS) {
                for (int p = 0; p < table.persons; p++) {
                    if (lives(p)) {
                        actByDraw(p);
                    }
                }
                endMeal();
                gone++;
            }
            return gone;
        }
    }

    /** What was so ahead of the latest acts: a ring with one place more, for an act that is tried. */
    private static final class Past {
        static final int PLACES = MOST_UNDONE + 1;

        final Course[] courses = new Course[PLACES];
        int kept = 0;
        int free = 0;

        Past(Table table) {
            for (int i = 0; i < PLACES; i++) {
                courses[i] = new Course(table);
            }
        }

        void forget() {
            kept = 0;
        }

        void note(Course course) {
            courses[free].become(course);
        }

        void keepNoted() {
            free = free + 1 < PLACES ? free + 1 : 0;
            kept = Math.min(kept + 1, MOST_UNDONE);
        }

        int takeBack(Course course) {
            if (kept == 0) {
                return NONE;
            }
            kept--;
            free = free > 0 ? free - 1 : PLACES - 1;
            course.become(courses[free]);
            return kept;
        }
    }

    /** Reads a TABLE beside the one that stands, which stays if there is a FAULT. */
    private static final class TableReader {
        static final int MOST_WANTED = 20;
        static final int MOST_PARTS = 99;
        static final int MOST_SPOILED = 9;
        static final int MOST_ON_PLATE = 40;
        static final int MOST_FOR_DOGS = 9;

        final Table heard = new Table();
        final Course start = new Course(heard);
        boolean lawTold = false;
        boolean dogsTold = false;

        int readFrom(Tape tape) {
            heard.forget();
            start.forget();
            lawTold = false;
            dogsTold = false;
            tape.begin(BYTES_OF_TABLE);
            int lines = 0;
            while (lines < BYTES_OF_TABLE && tape.token != Tape.END && readLine(tape)) {
                lines++;
            }
            return lines;
        }

        private boolean readLine(Tape tape) {
            switch (tape.token) {
                case Tape.PERSON:
                    return readPerson(tape);
                case Tape.DISH:
                    return readDish(tape);
                case Tape.PLATE:
                    return readPlate(tape);
                case Tape.LAW:
                    return readLaw(tape);
                case Tape.DOGS:
                    return readDogs(tape);
                default:
                    return tape.fail(Tape.CANT_COME);
            }
        }

        private boolean newName(Tape tape) {
            if (tape.token != Tape.NAME) {
                return tape.fail(Tape.CANT_COME);
            }
            if (heard.personNamed(tape.value) != NONE || heard.dishNamed(tape.value) != NONE) {
                return tape.fail(Tape.WRONG_NAME);
            }
            tape.advance();
            return true;
        }

        /** He is counted at the end of his LINE, so that nobody is his own parent. */
        private boolean readPerson(Tape tape) {
            if (heard.persons >= MOST_PERSONS) {
                return tape.fail(Tape.TOO_MANY);
            }
            tape.advance();
            long name = tape.value;
            if (!newName(tape)) {
                return false;
            }
            int wants = tape.takeNumber(0, MOST_WANTED);
            if (wants == NONE) {
                return false;
            }
            int parent = NONE;
            if (tape.token == Tape.OF) {
                tape.advance();
                parent = tape.takeName(heard.personNamed(tape.value));
                if (parent == NONE) {
                    return false;
                }
            }
            heard.personNames[heard.persons] = name;
            heard.wants[heard.persons] = wants;
            heard.parents[heard.persons] = parent;
            heard.persons++;
            return tape.take(';');
        }

        private boolean readDish(Tape tape) {
            if (heard.dishes >= MOST_DISHES) {
                return tape.fail(Tape.TOO_MANY);
            }
            tape.advance();
            long name = tape.value;
            if (!newName(tape)) {
                return false;
            }
            int parts = tape.takeNumber(0, MOST_PARTS);
            if (parts == NONE) {
                return false;
            }
            int spoils = 0;
            if (tape.token == Tape.SPOILS) {
                tape.advance();
                spoils = tape.takeNumber(1, MOST_SPOILED);
                if (spoils == NONE) {
                    return false;
                }
            }
            heard.dishNames[heard.dishes] = name;
            heard.spoils[heard.dishes] = spoils;
            start.parts[heard.dishes] = parts;
            heard.dishes++;
            return tape.take(';');
        }

        private boolean readPlate(Tape tape) {
            tape.advance();
            int p = tape.takeName(heard.personNamed(tape.value));
            if (p == NONE) {
                return false;
            }
            int d = heard.dishNamed(tape.value);
            if (tape.token == Tape.NAME && d != NONE && start.onPlate(p, d) > 0) {
                return tape.fail(Tape.WRONG_NAME);
            }
            if (tape.takeName(d) == NONE) {
                return false;
            }
            int parts = tape.takeNumber(1, MOST_ON_PLATE);
            if (parts == NONE) {
                return false;
            }
            start.addToPlate(p, d, parts);
            return tape.take(';');
        }

        private boolean readLaw(Tape tape) {
            if (lawTold) {
                return tape.fail(Tape.WRONG_NAME);
            }
            lawTold = true;
            tape.advance();
            if (tape.token == Tape.NEXT) {
                heard.law = LAW_NEXT;
            } else if (tape.token == Tape.CHILD) {
                heard.law = LAW_CHILD;
            } else if (tape.token == Tape.LEAST) {
                heard.law = LAW_LEAST;
            } else {
                return tape.fail(Tape.CANT_COME);
            }
            tape.advance();
            return tape.take(';');
        }

        private boolean readDogs(Tape tape) {
            if (dogsTold) {
                return tape.fail(Tape.WRONG_NAME);
            }
            dogsTold = true;
            tape.advance();
            heard.dogs = tape.takeNumber(0, MOST_FOR_DOGS);
            return heard.dogs != NONE && tape.take(';');
        }
    }

    /** The LINES of the latest BOOK, and what was told of the latest one without a FAULT. */
    private static final class Book {
        static final int MOST_LINES = 40;
        static final int TOO_FEW_MEALS = 61;

        final int[] acts = new int[MOST_LINES];
        final int[] who = new int[MOST_LINES];
        final int[] dishes = new int[MOST_LINES];
        final int[] numbers = new int[MOST_LINES];
        int lines = 0;
        boolean judged = false;
        int whyWrong = 0;
        int goodLines = 0;
        int mealThen = 0;
        int deadThen = 0;

        void readFrom(Tape tape, Table table) {
            tape.begin(BYTES_OF_BOOK);
            lines = 0;
            while (lines <= MOST_LINES && tape.token != Tape.END && readLine(tape, table)) {
                lines++;
            }
        }

        private boolean readLine(Tape tape, Table table) {
            boolean named = tape.token == Tape.NAME;
            if (!named && tape.token != Tape.MEAL) {
                return tape.fail(Tape.CANT_COME);
            }
            int p = named ? table.personNamed(tape.value) : NONE;
            if (named && p == NONE) {
                return tape.fail(Tape.WRONG_NAME);
            }
            if (lines >= MOST_LINES) {
                return tape.fail(Tape.TOO_MANY);
            }
            who[lines] = p;
            if (named) {
                tape.advance();
            }
            return readAct(tape, table) && tape.take(';');
        }

        private boolean readAct(Tape tape, Table table) {
            int act = tape.token;
            boolean ofMeals = who[lines] == NONE;
            boolean known = ofMeals ? act == Tape.MEAL : act >= Tape.EATS && act <= Tape.DIES;
            if (!known) {
                return tape.fail(Tape.CANT_COME);
            }
            tape.advance();
            acts[lines] = act;
            if (act == Tape.EATS || act == Tape.SERVED) {
                dishes[lines] = tape.takeName(table.dishNamed(tape.value));
                if (dishes[lines] == NONE) {
                    return false;
                }
            }
            int mostTold = mostOf(act);
            if (mostTold == 0) {
                return true;
            }
            numbers[lines] = tape.takeNumber(1, mostTold);
            return numbers[lines] != NONE;
        }

        /** The greatest NUMBER that may come with an act; 0 of an act without one. */
        private static int mostOf(int act) {
            switch (act) {
                case Tape.EATS:
                    return MOST_EATEN_AT_ONCE;
                case Tape.SERVED:
                    return MOST_SERVED_AT_ONCE;
                case Tape.MEAL:
                    return MOST_MEALS_AT_ONCE;
                default:
                    return 0;
            }
        }

        void judgeBy(Course course) {
            judged = true;
            whyWrong = 0;
            goodLines = 0;
            while (goodLines < lines && whyWrong == 0) {
                whyWrong = live(course, goodLines);
                if (whyWrong == 0) {
                    goodLines++;
                }
            }
            mealThen = course.meal;
            deadThen = course.dead;
        }

        private int live(Course course, int i) {
            int p = who[i];
            switch (acts[i]) {
                case Tape.EATS:
                    return course.tryToEat(p, dishes[i], numbers[i]);
                case Tape.SERVED:
                    return behind(10, course.tryToServe(p, dishes[i], numbers[i]));
                case Tape.RISES:
                    return behind(20, course.tryToRise(p));
                case Tape.REFUSES:
                    return behind(30, course.tryToRefuse(p));
                case Tape.ACCEPTS:
                    return behind(40, course.tryToAccept(p));
                case Tape.DIES:
                    return behind(50, course.tryToDie(p));
                default:
                    return liveMeals(course, numbers[i]);
            }
        }

        private static int behind(int tens, int whyNot) {
            return whyNot == 0 ? 0 : tens + whyNot;
        }

        private static int liveMeals(Course course, int n) {
            if (MOST_MEALS - course.meal < n) {
                return TOO_FEW_MEALS;
            }
            course.letMealsGo(n);
            return 0;
        }
    }

    /** A SENTENCE as steps in the order in which they are worked out: what is joined comes first. */
    private static final class Sentence {
        static final int MOST_ONES = 20;
        static final int MOST_WITHIN = 8;
        static final int MOST_STEPS = 2 * MOST_ONES;
        static final int GREATEST = 999;

        final int[] steps = new int[MOST_STEPS];
        final int[] signs = new int[MOST_STEPS];
        final int[] numbers = new int[MOST_STEPS];
        final int[] results = new int[MOST_STEPS];
        int length = 0;
        int ones = 0;

        void forget() {
            length = 0;
            ones = 0;
        }

        void become(Sentence other) {
            System.arraycopy(other.steps, 0, steps, 0, MOST_STEPS);
            System.arraycopy(other.signs, 0, signs, 0, MOST_STEPS);
            System.arraycopy(other.numbers, 0, numbers, 0, MOST_STEPS);
            length = other.length;
            ones = other.ones;
        }

        boolean readFrom(Tape tape, Table table) {
            forget();
            tape.begin(BYTES_OF_SENTENCE);
            return readCond(tape, table, 1) && tape.take(Tape.END);
        }

        private boolean readCond(Tape tape, Table table, int depth) {
            boolean right = readAll(tape, table, depth);
            for (int i = 0; i < MOST_ONES && right && tape.token == Tape.OR; i++) {
                tape.advance();
                right = readAll(tape, table, depth) && addStep(Tape.OR, 0, 0);
            }
            return right;
        }

        private boolean readAll(Tape tape, Table table, int depth) {
            boolean right = readOne(tape, table, depth);
            for (int i = 0; i < MOST_ONES && right && tape.token == Tape.AND; i++) {
                tape.advance();
                right = readOne(tape, table, depth) && addStep(Tape.AND, 0, 0);
            }
            return right;
        }

        private boolean readOne(Tape tape, Table table, int depth) {
            int first = tape.token;
            if (!beginsOne(first)) {
                return tape.fail(Tape.CANT_COME);
            }
            if (ones >= MOST_ONES || depth > MOST_WITHIN) {
                return tape.fail(Tape.TOO_MANY);
            }
            ones++;
            tape.advance();
            if (first == '(') {
                return readCond(tape, table, depth + 1) && tape.take(')');
            }
            if (first == Tape.NOT) {
                return readOne(tape, table, depth + 1) && addStep(Tape.NOT, 0, 0);
            }
            return readPlainOne(tape, table, first);
        }

        private static boolean beginsOne(int token) {
            return token == '(' || token == Tape.OF || token >= Tape.NOT && token <= Tape.NUMBER_OF;
        }

        private boolean readPlainOne(Tape tape, Table table, int first) {
            if (first == Tape.OF) {
                int p = tape.takeName(table.personNamed(tape.value));
                return p != NONE && addStep(first, 0, p);
            }
            if (first == Tape.HAS) {
                int d = tape.takeName(table.dishNamed(tape.value));
                return d != NONE && addStep(first, 0, d);
            }
            if (first < Tape.HAS) {
                return addStep(first, 0, 0);
            }
            int sign = tape.token;
            if (sign != '<' && sign != '=' && sign != '>') {
                return tape.fail(Tape.CANT_COME);
            }
            tape.advance();
            int number = tape.takeNumber(0, GREATEST);
            return number != NONE && addStep(first, sign, number);
        }

        private boolean addStep(int step, int sign, int number) {
            if (length >= MOST_STEPS) {
                return false;
            }
            steps[length] = step;
            signs[length] = sign;
            numbers[length] = number;
            length++;
            return true;
        }

        /** Each step is worked out for all PERSONS at once, as bits. */
        int personsIn(Course course) {
            int all = course.table.everybody();
            int top = -1;
            for (int i = 0; i < length; i++) {
                int step = steps[i];
                if (step == Tape.NOT && top >= 0) {
                    results[top] = all & ~results[top];
                } else if (step == Tape.OR && top >= 1) {
                    top--;
                    results[top] |= results[top + 1];
                } else if (step == Tape.AND && top >= 1) {
                    top--;
                    results[top] &= results[top + 1];
                } else if (top + 1 < MOST_STEPS) {
                    top++;
                    results[top] = thoseOf(course, i);
                }
            }
            return top >= 0 ? results[top] : 0;
        }

        private int thoseOf(Course course, int i) {
            int those = 0;
            for (int p = 0; p < course.table.persons; p++) {
                if (holds(course, i, p)) {
                    those |= 1 << p;
                }
            }
            return those;
        }

        private boolean holds(Course course, int i, int p) {
            switch (steps[i]) {
                case Tape.DEAD:
                    return !course.lives(p);
                case Tape.REFUSED:
                    return (course.refusing >> p & 1) != 0;
                case Tape.CLEAN:
                    return course.loads[p] == 0;
                case Tape.OF:
                    return course.table.parents[p] == numbers[i];
                case Tape.HAS:
                    return course.onPlate(p, numbers[i]) > 0;
                case Tape.WANTS:
                    return compares(course.table.wants[p], i);
                case Tape.EATEN:
                    return compares(course.eaten[p], i);
                case Tape.HUNGER:
                    return compares(course.hunger[p], i);
                default:
                    return compares(p, i);
            }
        }

        private boolean compares(int value, int i) {
            switch (signs[i]) {
                case '<':
                    return value < numbers[i];
                case '>':
                    return value > numbers[i];
                default:
                    return value == numbers[i];
            }
        }
    }

    /** Looks for the ORDER: all orders, place by place, the least PERSON ahead. */
    private static final class Order {
        final Course[] courses = new Course[MOST_PERSONS + 1];
        final int[] row = new int[MOST_PERSONS];
        final int[] best = new int[MOST_PERSONS];
        int places = 0;
        int fewest = 0;

        Order(Table table) {
            for (int i = 0; i <= MOST_PERSONS; i++) {
                courses[i] = new Course(table);
            }
        }

        int findFrom(Course course) {
            places = Integer.bitCount(course.living());
            fewest = MORE_THAN_ALL;
            courses[0].become(course);
            goOn(0, course.living(), 0);
            return fewest;
        }

        /** Orders that can't be better than the best one so far are not followed. */
        private void goOn(int depth, int rest, int wanted) {
            if (rest == 0 || depth >= MOST_PERSONS) {
                fewest = wanted;
                System.arraycopy(row, 0, best, 0, MOST_PERSONS);
                return;
            }
            Course before = courses[depth];
            Course after = courses[depth + 1];
            for (int p = 0; p < MOST_PERSONS; p++) {
                if ((rest >> p & 1) != 0) {
                    after.become(before);
                    after.eatAll(p);
                    after.tryToRise(p);
                    row[depth] = p;
                    int others = rest & ~(1 << p);
                    int wantedThen = wanted + after.wantsYet(p);
                    if (wantedThen + atLeastWanted(after, others) < fewest) {
                        goOn(depth + 1, others, wantedThen);
                    }
                }
            }
        }

        /** Those who come yet can't eat more than is on their own plates in all. */
        private static int atLeastWanted(Course course, int others) {
            int wanted = 0;
            for (int p = 0; p < course.table.persons; p++) {
                if ((others >> p & 1) != 0) {
                    wanted += course.wantsYet(p) - course.loads[p];
                }
            }
            return Math.max(wanted, 0);
        }
    }

    /** The latest SEATS. */
    private static final class Seating {
        final int[] row = new int[MOST_PERSONS];
        int places = 0;

        /**
         * As nobody has two parents, all who have a child yet to be seated can have one of them
         * behind them, whoever else sits where: so the most are known ahead, and each place goes to
         * the least PERSON by whom none of them is lost.
         */
        int seat(Course course) {
            Table table = course.table;
            int rest = course.living();
            int most = parentsAmong(table, rest, rest);
            int pairs = 0;
            int last = NONE;
            places = 0;
            for (int p = 0; p < table.persons && rest != 0; p++) {
                int next = leastFor(table, rest, last, most - pairs);
                if (next == NONE || places >= MOST_PERSONS) {
                    return pairs;
                }
                pairs += isChild(table, next, last);
                row[places] = next;
                places++;
                rest &= ~(1 << next);
                last = next;
            }
            return pairs;
        }

        private static int leastFor(Table table, int rest, int last, int pairsYet) {
            for (int p = 0; p < table.persons; p++) {
                int others = rest & ~(1 << p);
                if (others != rest
                        && isChild(table, p, last) + parentsAmong(table, rest, others) == pairsYet) {
                    return p;
                }
            }
            return NONE;
        }

        private static int isChild(Table table, int p, int last) {
            return last != NONE && table.parents[p] == last ? 1 : 0;
        }

        /** How many of some PERSONS have a child among others. */
        private static int parentsAmong(Table table, int some, int others) {
            int found = 0;
            for (int p = 0; p < table.persons; p++) {
                if ((some >> p & 1) != 0 && (table.childrenOf(p) & others) != 0) {
                    found++;
                }
            }
            return found;
        }
    }

    /** What the latest EATERS above 0 heard. */
    private static final class Guess {
        final int[] setsOf = new int[MOST_PERSONS];
        int inEach = NONE;
        int toAsk = NONE;

        int setsWith(Course course, int d, int parts) {
            int everybody = course.table.everybody();
            int sets = 0;
            int always = everybody;
            for (int p = 0; p < MOST_PERSONS; p++) {
                setsOf[p] = 0;
            }
            for (int set = 0; set <= everybody; set++) {
                if (course.onPlatesOf(set, d) == parts) {
                    sets++;
                    always &= set;
                    countIn(set);
                }
            }
            if (sets > 0) {
                inEach = always;
                toAsk = nearestToHalf(course.table.persons, sets);
            }
            return sets;
        }

        private void countIn(int set) {
            for (int p = 0; p < MOST_PERSONS; p++) {
                setsOf[p] += set >> p & 1;
            }
        }

        private int nearestToHalf(int persons, int sets) {
            int nearest = NONE;
            int least = MORE_THAN_ALL;
            for (int p = 0; p < persons; p++) {
                int off = Math.abs(2 * setsOf[p] - sets);
                if (off < least) {
                    least = off;
                    nearest = p;
                }
            }
            return nearest;
        }
    }

    /** What is kept in a place for images. */
    private static final class Image {
        final Table heard = new Table();
        final Course course = new Course(heard);
        final Sentence saying = new Sentence();
        boolean kept = false;

        void keep(Table table, Course present, Sentence sentence) {
            heard.become(table);
            course.become(present);
            saying.become(sentence);
            kept = true;
        }
    }
}
