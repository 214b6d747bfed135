import java.util.Arrays;
import java.util.NoSuchElementException;

/** Persons in houses who hold a thing, the laws told of them, and what can be asked of their runs. */
public final class NotEnded {
    public static final int NONE = -1;
    public static final int HIDDEN = -1000;

    private static final int NO_SORT = -2;
    private static final int SORT_LAW = 0;
    private static final int SORT_TURNING = 1;

    private static final int MOST_BYTES = 120;
    // the shortest clause has three bytes and a ; behind it; one place more is for a clause begun at the very end
    private static final int MOST_CLAUSES = MOST_BYTES / 4 + 1;
    private static final int CLAUSE_SIZE = 4;
    private static final int MOST_NESTED = 6;
    private static final int MOST_LAWS = 6;
    private static final int MOST_TURNINGS = 8;
    private static final int MOST_PERSONS = 10;
    private static final int MOST_WORDS = 4;
    private static final int MOST_NOTES = 20;
    private static final int MOST_ACTS = 6;
    private static final int MOST_GOING = 8;

    private static final int HOURS = 48;
    private static final int HOUSES = 4;
    private static final int OUTCOMES = 32;
    private static final int THINGS = 5;
    private static final int MOST_HELD = 100;
    private static final int MOST_PUT_IN = 99;
    private static final int MOST_OFF = 50;
    private static final int MOST_COST = 50;
    private static final int TELLS_FROM = 50;
    private static final int GIVEN_UP_BELOW = 20;

    private static final int LABEL_Y = 0;
    private static final int LABEL_G = 1;
    private static final int LABEL_X = 2;
    private static final int LABEL_W = 0;

    private static final int LETTERS = 8;
    private static final int LETTER_V = 0;
    private static final int LETTER_P = 1;
    private static final int LETTER_N = 2;
    private static final int LETTER_M = 3;
    private static final int LETTER_S = 4;
    private static final int LETTER_U = 5;
    private static final int LETTER_D = 6;
    private static final int LETTER_I = 7;

    // a step of a rule is a number (below 10,000), or a letter or a sign moved up into a range of its own
    private static final int STEP_LETTER = 10_000;
    private static final int STEP_SIGN = 20_000;
    private static final int NUMBER_BOUND = 1_000_000;

    private final Tape tape = new Tape();
    private final Reader reader = new Reader(tape);
    private final Reckoner reckoner = new Reckoner();
    private final Shelf laws = new Shelf(MOST_LAWS);
    private final Shelf turnings = new Shelf(MOST_TURNINGS);
    private final Folk folk = new Folk();
    private final Course course = new Course(folk, reckoner);
    private final Notebook notebook = new Notebook();
    private final Acts acts = new Acts();
    private final int[] said = new int[MOST_PERSONS];

    public NotEnded() {
        Arrays.fill(said, NONE);
    }

    // ---- the tape and the texts ----

    public int feed(int a, int b, int c, int d, int e) {
        int more = Tape.bytesIn(a) + Tape.bytesIn(b) + Tape.bytesIn(c) + Tape.bytesIn(d) + Tape.bytesIn(e);
        if (tape.length() + more > MOST_BYTES) {
            return NONE;
        }
        tape.append(a);
        tape.append(b);
        tape.append(c);
        tape.append(d);
        tape.append(e);
        return tape.length();
    }

    public boolean end(int n) {
        if (n < 0 || n > tape.length()) {
            return false;
        }
        tape.cutTo(n);
        return true;
    }

    public int fault(int sort) {
        return isSort(sort) ? reader.read(sort) : NO_SORT;
    }

    public int text(int sort) {
        if (!isSort(sort)) {
            return NONE;
        }
        Shelf shelf = sort == SORT_LAW ? laws : turnings;
        if (shelf.isFull() || reader.read(sort) != NONE) {
            return NONE;
        }
        tape.cutTo(0);
        return shelf.put(reader.rule());
    }

    // ---- what is told ----

    public int person(int holds, int putIn, int house, boolean sent) {
        boolean fits = isIn(holds, 0, MOST_HELD) && isIn(putIn, 0, MOST_PUT_IN) && isHouse(house);
        return fits ? folk.addPerson(holds, putIn, house, sent) : NONE;
    }

    public boolean know(int one, int other) {
        if (!folk.has(one) || !folk.has(other) || one == other) {
            return false;
        }
        folk.acquaint(one, other);
        return true;
    }

    public int word(int hour) {
        return isIn(hour, 0, HOURS - 1) ? folk.addWord(hour) : NONE;
    }

    public int worth(int law, int label, int person) throws NoSuchElementException {
        Rule rule = laws.at(law);
        if (rule == null || !isIn(label, LABEL_Y, LABEL_X) || !folk.has(person)) {
            throw new NoSuchElementException();
        }
        course.begin(rule, 0L, 0);
        return course.worthNow(label, person);
    }

    // ---- runs ----

    public int run(int law, long seed, int hours, int person, int what) {
        Rule rule = laws.at(law);
        if (rule == null || !isIn(hours, 0, HOURS) || !folk.has(person) || !isIn(what, 0, 2)) {
            return HIDDEN;
        }
        course.begin(rule, seed, 0);
        course.go(hours);
        if (what == 0) {
            return course.heldBy(person);
        }
        return what == 1 ? course.placeOf(person) : course.tellsSince(person);
    }

    public int all(int law, long seed, int hours, int what) {
        Rule rule = laws.at(law);
        if (rule == null || !isIn(hours, 0, HOURS) || !isIn(what, 0, 1)) {
            return NONE;
        }
        course.begin(rule, seed, 0);
        course.go(hours);
        return what == 0 ? course.howManyAreHome() : course.whoGaveUp();
    }

    public int without(int law, long seed, int who, int person) {
        Rule rule = laws.at(law);
        if (rule == null || !folk.has(person) || !folk.hasAll(who) || isBit(who, person)) {
            return HIDDEN;
        }
        return heldAtEnd(rule, seed, who, person);
    }

    public int did(int law, long seed, int person) {
        Rule rule = laws.at(law);
        if (rule == null || !folk.has(person) || folk.isSent(person)) {
            return HIDDEN;
        }
        return heldAtEnd(rule, seed, 0, person) - heldAtEnd(rule, seed, folk.sentOnes(), person);
    }

    public int lean(int law, long seed, int person, int what) {
        Rule rule = laws.at(law);
        if (rule == null || !folk.has(person) || folk.isSent(person) || !isIn(what, 0, 1)) {
            return HIDDEN;
        }
        int held = heldAtEnd(rule, seed, 0, person);
        course.begin(rule, seed, 0);
        if (what == 0) {
            course.giveBack(person, MOST_PUT_IN);
        } else {
            course.moveTo(person, NONE);
        }
        course.go(HOURS);
        return held - course.heldBy(person);
    }

    // ---- notes, books, odds ----

    public int note(int person, int hour, int kind, int value, int off) {
        if (!folk.has(person) || !isIn(hour, 0, HOURS)) {
            return NONE;
        }
        boolean held = kind == 0 && isIn(value, 0, MOST_HELD) && isIn(off, 0, MOST_OFF);
        boolean housed = kind == 1 && (value == NONE || isHouse(value));
        return held || housed ? notebook.add(person, hour, kind, value, off) : NONE;
    }

    public int fits(long seed, boolean alone) {
        int about = alone ? folk.thoseAlone() : folk.everybody();
        int fitting = 0;
        for (int i = 0; i < laws.size(); i++) {
            if (isNoted(laws.at(i), seed, about)) {
                fitting |= 1 << i;
            }
        }
        return fitting;
    }

    public int books(int law, long seed, int what) {
        Rule rule = laws.at(law);
        if (rule == null || !isIn(what, 0, 1)) {
            return HIDDEN;
        }
        course.begin(rule, seed, 0);
        course.go(HOURS);
        int kept = course.housesThatTold();
        if (what == 0) {
            return kept;
        }
        return kept == 0 ? 0 : course.meanHeldIn(kept) - course.meanHeldIn((1 << HOUSES) - 1);
    }

    public long odds(int law, long seed, int hours, int k) {
        Rule rule = laws.at(law);
        if (rule == null || !isIn(hours, 0, HOURS - 1) || !isIn(k, 0, MOST_GOING)) {
            return NONE;
        }
        course.begin(rule, seed, 0);
        course.go(hours);
        return course.waysThatGo(k);
    }

    // ---- turnings ----

    public int lets(int turning, int outcome) {
        Rule rule = turnings.at(turning);
        if (rule == null || !isOutcome(outcome)) {
            return NONE;
        }
        return isLet(rule, outcome) ? 1 : 0;
    }

    public int bars(int turning) {
        Rule rule = turnings.at(turning);
        return rule == null ? NONE : Integer.bitCount(barredBy(rule));
    }

    public int bolder(int one, int other) {
        Rule first = turnings.at(one);
        Rule second = turnings.at(other);
        if (first == null || second == null) {
            return NONE;
        }
        int barred = barredBy(first);
        int barredBySecond = barredBy(second);
        return barred != barredBySecond && (barred & barredBySecond) == barredBySecond ? 1 : 0;
    }

    public boolean say(int person, int turning) {
        if (!folk.has(person) || turning != NONE && turnings.at(turning) == null) {
            return false;
        }
        said[person] = turning;
        return true;
    }

    public int stayed(int law, long seed, int outcome) {
        Rule rule = laws.at(law);
        if (rule == null || !isOutcome(outcome)) {
            return NONE;
        }
        course.begin(rule, seed, 0);
        course.go(HOURS);
        int staying = 0;
        for (int j = 0; j < folk.size(); j++) {
            Rule turning = turnings.at(said[j]);
            if (turning != null && course.heldBy(j) >= TELLS_FROM && isLet(turning, outcome)) {
                staying |= 1 << j;
            }
        }
        return staying;
    }

    // ---- help and lookers ----

    public int act(int person, int kind, int x, int cost) {
        if (!folk.has(person) || folk.isSent(person) || !isIn(cost, 1, MOST_COST)) {
            return NONE;
        }
        boolean back = kind == Acts.GIVE_BACK && isIn(x, 0, MOST_PUT_IN);
        boolean moved = kind == Acts.MOVE && isHouse(x);
        boolean gone = kind == Acts.AWAY && folk.has(x) && x != person;
        return back || moved || gone ? acts.add(person, kind, x, cost) : NONE;
    }

    public int help(int law, long seed, int person, int what) {
        Rule rule = laws.at(law);
        if (rule == null || !folk.has(person) || !isIn(what, 0, 1)) {
            return NONE;
        }
        int least = leastHelp(rule, seed, person);
        return least == NONE || what == 0 ? least : acts.costOf(least);
    }

    public int lookers(int law, long seed) {
        Rule rule = laws.at(law);
        if (rule == null) {
            return NONE;
        }
        int sent = folk.sentOnes();
        int due = holdersWithout(rule, seed, sent);
        for (int size = Integer.bitCount(sent); size > 0; size--) {
            int best = lookersOfSize(rule, seed, size, due);
            if (best != NONE) {
                return best;
            }
        }
        return 0;
    }

    public int count(int what) {
        switch (what) {
            case 0:
                return laws.size();
            case 1:
                return turnings.size();
            case 2:
                return folk.size();
            case 3:
                return folk.words();
            case 4:
                return notebook.size();
            case 5:
                return acts.size();
            case 6:
                return tape.length();
            default:
                return NONE;
        }
    }

    // ---- what several calls need ----

    private int heldAtEnd(Rule rule, long seed, int absent, int person) {
        course.begin(rule, seed, absent);
        course.go(HOURS);
        return course.heldBy(person);
    }

    private boolean isNoted(Rule rule, long seed, int about) {
        course.begin(rule, seed, 0);
        for (int hour = 0; hour <= HOURS; hour++) {
            if (!notebook.agrees(course, hour, about)) {
                return false;
            }
            if (hour < HOURS) {
                course.go(1);
            }
        }
        return true;
    }

    private boolean isLet(Rule rule, int outcome) {
        for (int thing = 0; thing < THINGS; thing++) {
            reckoner.setLetter(thing, outcome >> thing & 1);
        }
        return reckoner.worthOf(rule, LABEL_W) != 0;
    }

    private int barredBy(Rule rule) {
        int barred = 0;
        for (int outcome = 0; outcome < OUTCOMES; outcome++) {
            if (!isLet(rule, outcome)) {
                barred |= 1 << outcome;
            }
        }
        return barred;
    }

    private int leastHelp(Rule rule, long seed, int person) {
        int own = acts.actsFor(person);
        int best = NONE;
        for (int set = 0; set <= own; set++) {
            boolean better = (set & ~own) == 0 && (best == NONE || acts.isLess(set, best));
            if (better && givesUpBy(rule, seed, person, set)) {
                best = set;
            }
        }
        return best;
    }

    private boolean givesUpBy(Rule rule, long seed, int person, int set) {
        course.begin(rule, seed, acts.goneBy(set));
        course.giveBack(person, acts.givenBackBy(set));
        int house = acts.houseBy(set);
        if (house != NONE) {
            course.moveTo(person, house);
        }
        course.go(HOURS);
        return course.heldBy(person) < GIVEN_UP_BELOW;
    }

    private int holdersWithout(Rule rule, long seed, int absent) {
        course.begin(rule, seed, absent);
        course.go(HOURS);
        return course.whoHoldsOn();
    }

    private int lookersOfSize(Rule rule, long seed, int size, int due) {
        int sent = folk.sentOnes();
        int best = NONE;
        for (int set = 0; set <= sent; set++) {
            boolean such = (set & ~sent) == 0 && Integer.bitCount(set) == size;
            boolean better = such && (best == NONE || isLowerFirst(set, best));
            if (better && holdersWithout(rule, seed, sent & ~set) == due) {
                best = set;
            }
        }
        return best;
    }

    private static boolean isSort(int sort) {
        return sort == SORT_LAW || sort == SORT_TURNING;
    }

    private static boolean isHouse(int house) {
        return isIn(house, 0, HOUSES - 1);
    }

    private static boolean isOutcome(int outcome) {
        return isIn(outcome, 0, OUTCOMES - 1);
    }

    private static boolean isIn(int number, int least, int most) {
        return number >= least && number <= most;
    }

    private static boolean isBit(int bits, int which) {
        return (bits >> which & 1) != 0;
    }

    private static int within(int number, int least, int most) {
        if (number < least) {
            return least;
        }
        return number > most ? most : number;
    }

    /** Whether one of two sets that differ has the lowest number by which they do. */
    private static boolean isLowerFirst(int set, int other) {
        int differ = set ^ other;
        return (set & differ & -differ) != 0;
    }

    /** The bytes that were fed and not yet made a text. */
    private static final class Tape {
        private final char[] signs = new char[MOST_BYTES];
        private int length = 0;

        static int bytesIn(int number) {
            int found = 0;
            for (int shift = 24; shift >= 0; shift -= 8) {
                if ((number >>> shift & 255) != 0) {
                    found++;
                }
            }
            return found;
        }

        void append(int number) {
            for (int shift = 24; shift >= 0; shift -= 8) {
                int sign = number >>> shift & 255;
                if (sign != 0 && length < signs.length) {
                    signs[length] = (char) sign;
                    length++;
                }
            }
        }

        void cutTo(int n) {
            length = within(n, 0, length);
        }

        int length() {
            return length;
        }

        /** 0, which no byte of the tape is, behind its end. */
        char at(int place) {
            return place >= 0 && place < length && place < signs.length ? signs[place] : 0;
        }
    }

    /** A text as its steps in the order of reckoning: a sign stands behind what it joins. */
    private static final class Rule {
        private final int[] steps;
        // of each clause its label, and where its condition, its sum and what follows begin among the steps
        private final int[] clauses;

        Rule(int[] steps, int[] clauses) {
            this.steps = steps;
            this.clauses = clauses;
        }
    }

    /** The texts of one sort. */
    private static final class Shelf {
        private final Rule[] rules;
        private int size = 0;

        Shelf(int most) {
            rules = new Rule[most >= 0 ? most : 0];
        }

        boolean isFull() {
            return size >= rules.length;
        }

        int put(Rule rule) {
            if (isFull()) {
                return NONE;
            }
            rules[size] = rule;
            size++;
            return size - 1;
        }

        int size() {
            return size;
        }

        Rule at(int number) {
            return number >= 0 && number < size && number < rules.length ? rules[number] : null;
        }
    }

    /**
     * Reads the tape by the grammar. Each reading method answers whether what it reads stands there; where one
     * answers false, the place that it stopped at is the fault.
     */
    private static final class Reader {
        private final Tape tape;
        private final int[] steps = new int[MOST_BYTES];
        private final int[] clauses = new int[CLAUSE_SIZE * MOST_CLAUSES];
        private int written = 0;
        private int filled = 0;
        private int place = 0;
        private String labelSigns = "";
        private String letterSigns = "";

        Reader(Tape tape) {
            this.tape = tape;
        }

        /** The fault, or NONE. */
        int read(int sort) {
            labelSigns = sort == SORT_LAW ? "ygx" : "w";
            letterSigns = sort == SORT_LAW ? "vpnmsudi" : "abcde";
            written = 0;
            filled = 0;
            place = 0;
            for (int i = 0; i < MOST_CLAUSES; i++) {
                if (!readClause()) {
                    return place;
                }
                if (look() == 0) {
                    return NONE;
                }
                if (!take(';')) {
                    return place;
                }
            }
            return place;
        }

        /** What was read last, if that had no fault. */
        Rule rule() {
            return new Rule(Arrays.copyOf(steps, written), Arrays.copyOf(clauses, filled));
        }

        private boolean readClause() {
            int label = labelSigns.indexOf(look());
            if (label < 0) {
                return false;
            }
            place++;
            if (!take(':')) {
                return false;
            }
            int start = written;
            boolean isCondition = look() == '!' || look() == '(';
            if (!isCondition) {
                if (!readSum(0)) {
                    return false;
                }
                // only what follows the sum tells whether it opens a condition or is the clause's own
                if (!isComparison(look())) {
                    return keepClause(label, start, start);
                }
            }
            if (!readCondition(0, !isCondition)) {
                return false;
            }
            int sum = written;
            return take('?') && readSum(0) && keepClause(label, start, sum);
        }

        private boolean keepClause(int label, int start, int sum) {
            if (filled + CLAUSE_SIZE > clauses.length) {
                return false;
            }
            clauses[filled] = label;
            clauses[filled + 1] = start;
            clauses[filled + 2] = sum;
            clauses[filled + 3] = written;
            filled += CLAUSE_SIZE;
            return true;
        }

        private boolean readCondition(int depth, boolean sumIsRead) {
            if (!readTruth(depth, sumIsRead)) {
                return false;
            }
            for (int i = 0; i < MOST_BYTES && look() == '|'; i++) {
                place++;
                if (!readTruth(depth, false) || !write(STEP_SIGN + '|')) {
                    return false;
                }
            }
            return true;
        }

        private boolean readTruth(int depth, boolean sumIsRead) {
            if (!readUnit(depth, sumIsRead)) {
                return false;
            }
            for (int i = 0; i < MOST_BYTES && look() == '&'; i++) {
                place++;
                if (!readUnit(depth, false) || !write(STEP_SIGN + '&')) {
                    return false;
                }
            }
            return true;
        }

        private boolean readUnit(int depth, boolean sumIsRead) {
            if (!sumIsRead) {
                char sign = look();
                if (sign == '!') {
                    return opens(depth) && readUnit(depth + 1, false) && write(STEP_SIGN + '!');
                }
                if (sign == '(') {
                    return opens(depth) && readCondition(depth + 1, false) && take(')');
                }
                if (!readSum(depth)) {
                    return false;
                }
            }
            char comparison = look();
            if (!isComparison(comparison)) {
                return false;
            }
            place++;
            return readSum(depth) && write(STEP_SIGN + comparison);
        }

        private boolean readSum(int depth) {
            if (!readTerm(depth)) {
                return false;
            }
            for (int i = 0; i < MOST_BYTES && (look() == '+' || look() == '-'); i++) {
                char sign = look();
                place++;
                if (!readTerm(depth) || !write(STEP_SIGN + sign)) {
                    return false;
                }
            }
            return true;
        }

        private boolean readTerm(int depth) {
            if (!readAtom(depth)) {
                return false;
            }
            for (int i = 0; i < MOST_BYTES && (look() == '*' || look() == '/'); i++) {
                char sign = look();
                place++;
                if (!readAtom(depth) || !write(STEP_SIGN + sign)) {
                    return false;
                }
            }
            return true;
        }

        private boolean readAtom(int depth) {
            char sign = look();
            if (sign == '[') {
                return opens(depth) && readSum(depth + 1) && take(']');
            }
            if (isDigit(sign)) {
                return readNumber();
            }
            int letter = letterSigns.indexOf(sign);
            if (letter < 0) {
                return false;
            }
            place++;
            return write(STEP_LETTER + letter);
        }

        private boolean readNumber() {
            int number = 0;
            for (int i = 0; i < 4 && isDigit(tape.at(place)); i++) {
                number = number * 10 + (tape.at(place) - '0');
                place++;
            }
            return !isDigit(tape.at(place)) && write(number);
        }

        /** Steps over a sign that encloses, if it may stand so deep. */
        private boolean opens(int depth) {
            if (depth >= MOST_NESTED) {
                return false;
            }
            place++;
            return true;
        }

        private boolean take(char sign) {
            if (look() != sign) {
                return false;
            }
            place++;
            return true;
        }

        /** The next sign that is no blank; 0 at the end. */
        private char look() {
            for (int i = 0; i < MOST_BYTES && tape.at(place) == ' '; i++) {
                place++;
            }
            return tape.at(place);
        }

        private boolean write(int step) {
            if (written >= steps.length) {
                return false;
            }
            steps[written] = step;
            written++;
            return true;
        }

        private static boolean isDigit(char sign) {
            return sign >= '0' && sign <= '9';
        }

        private static boolean isComparison(char sign) {
            return sign == '=' || sign == '<' || sign == '>';
        }
    }

    /** Reckons rules by letters that were set before. */
    private static final class Reckoner {
        // each of six enclosings leaves two numbers open at most, and so does what stands outside of them
        private static final int MOST_OPEN = 32;

        private final int[] letters = new int[LETTERS];
        private final int[] open = new int[MOST_OPEN];

        void setLetter(int letter, int value) {
            if (letter >= 0 && letter < letters.length) {
                letters[letter] = value;
            }
        }

        int worthOf(Rule rule, int label) {
            if (rule == null) {
                return 0;
            }
            int[] clauses = rule.clauses;
            for (int c = 0; c + CLAUSE_SIZE <= clauses.length; c += CLAUSE_SIZE) {
                int start = clauses[c + 1];
                int sum = clauses[c + 2];
                if (clauses[c] == label && (start == sum || reckon(rule.steps, start, sum) != 0)) {
                    return reckon(rule.steps, sum, clauses[c + 3]);
                }
            }
            return 0;
        }

        private int reckon(int[] steps, int start, int end) {
            int top = 0;
            for (int i = Math.max(start, 0); i < end && i < steps.length; i++) {
                int step = steps[i];
                if (step < STEP_SIGN) {
                    if (top < open.length) {
                        open[top] = valueOf(step);
                        top++;
                    }
                } else if (step == STEP_SIGN + '!') {
                    if (top > 0) {
                        open[top - 1] = open[top - 1] == 0 ? 1 : 0;
                    }
                } else if (top > 1) {
                    top--;
                    open[top - 1] = bounded(join(step - STEP_SIGN, open[top - 1], open[top]));
                }
            }
            return top > 0 ? open[0] : 0;
        }

        private int valueOf(int step) {
            int letter = step - STEP_LETTER;
            return letter >= 0 && letter < letters.length ? letters[letter] : step;
        }

        private static long join(int sign, int left, int right) {
            switch (sign) {
                case '+':
                    return (long) left + right;
                case '-':
                    return (long) left - right;
                case '*':
                    return (long) left * right;
                case '/':
                    return right == 0 ? 0 : left / right;
                case '=':
                    return left == right ? 1 : 0;
                case '<':
                    return left < right ? 1 : 0;
                case '>':
                    return left > right ? 1 : 0;
                case '&':
                    return left & right;
                default:
                    return left | right;
            }
        }

        private static int bounded(long number) {
            if (number > NUMBER_BOUND) {
                return NUMBER_BOUND;
            }
            return number < -NUMBER_BOUND ? -NUMBER_BOUND : (int) number;
        }
    }

    /** The persons and the words, as told. */
    private static final class Folk {
        private final int[] holds = new int[MOST_PERSONS];
        private final int[] putIn = new int[MOST_PERSONS];
        private final int[] houses = new int[MOST_PERSONS];
        private final int[] knows = new int[MOST_PERSONS];
        private final int[] hours = new int[MOST_WORDS];
        private int sent = 0;
        private int size = 0;
        private int words = 0;

        int addPerson(int held, int put, int house, boolean isSent) {
            if (size >= MOST_PERSONS) {
                return NONE;
            }
            holds[size] = held;
            putIn[size] = put;
            houses[size] = house;
            if (isSent) {
                sent |= 1 << size;
            }
            size++;
            return size - 1;
        }

        void acquaint(int one, int other) {
            if (has(one) && has(other)) {
                knows[one] |= 1 << other;
                knows[other] |= 1 << one;
            }
        }

        int addWord(int hour) {
            if (words >= MOST_WORDS) {
                return NONE;
            }
            hours[words] = hour;
            words++;
            return words;
        }

        int size() {
            return size;
        }

        int words() {
            return words;
        }

        boolean has(int one) {
            return one >= 0 && one < size && one < MOST_PERSONS;
        }

        boolean hasAll(int who) {
            return (who & ~everybody()) == 0;
        }

        int everybody() {
            return (1 << size) - 1;
        }

        int sentOnes() {
            return sent;
        }

        boolean isSent(int one) {
            return isBit(sent, one);
        }

        int thoseAlone() {
            int alone = everybody();
            for (int j = 0; j < size; j++) {
                for (int k = 0; k < size; k++) {
                    if (j != k && houses[j] == houses[k]) {
                        alone &= ~(1 << j);
                    }
                }
            }
            return alone;
        }

        int wordsPast(int hour) {
            int past = 0;
            for (int i = 0; i < words; i++) {
                if (hours[i] <= hour) {
                    past++;
                }
            }
            return past;
        }

        int hoursSinceWord(int hour) {
            int latest = NONE;
            for (int i = 0; i < words; i++) {
                if (hours[i] <= hour) {
                    latest = Math.max(latest, hours[i]);
                }
            }
            return latest == NONE ? 0 : hour - latest;
        }
    }

    /** One run, from its beginning to the hour that it has come to. */
    private static final class Course {
        private static final long TIMES = 6364136223846793005L;
        private static final long PLUS = 1442695040888963407L;

        private final Folk folk;
        private final Reckoner reckoner;
        private final int[] held = new int[MOST_PERSONS];
        private final int[] putIn = new int[MOST_PERSONS];
        private final int[] places = new int[MOST_PERSONS];
        private final int[] tellsSince = new int[MOST_PERSONS];
        private final int[] holdsMore = new int[MOST_PERSONS];
        private final int[] passesOn = new int[MOST_PERSONS];
        private final int[] goes = new int[MOST_PERSONS];
        private final int[] hears = new int[MOST_PERSONS];
        private final int[] manyIn = new int[HOUSES];
        private final int[] heldIn = new int[HOUSES];
        private final int[] sentIn = new int[HOUSES];
        private final long[] ways = new long[MOST_GOING + 1];
        private Rule law = null;
        private long drawn = 0L;
        private int present = 0;
        // those there who are not sent: only what they hold changes
        private int moved = 0;
        private int hour = 0;

        Course(Folk folk, Reckoner reckoner) {
            this.folk = folk;
            this.reckoner = reckoner;
        }

        void begin(Rule rule, long seed, int absent) {
            law = rule;
            drawn = seed;
            present = folk.everybody() & ~absent;
            moved = present & ~folk.sentOnes();
            hour = 0;
            for (int j = 0; j < folk.size(); j++) {
                held[j] = folk.holds[j];
                putIn[j] = folk.putIn[j];
                places[j] = folk.houses[j];
                tellsSince[j] = NONE;
            }
        }

        void giveBack(int one, int much) {
            if (folk.has(one)) {
                putIn[one] = Math.max(0, putIn[one] - much);
            }
        }

        void moveTo(int one, int house) {
            if (folk.has(one)) {
                places[one] = house;
            }
        }

        void go(int hours) {
            for (int i = 0; i < hours && i < HOURS; i++) {
                weigh();
                holdMore();
                tell();
                goHome();
                hour++;
            }
        }

        int heldBy(int one) {
            return folk.has(one) ? held[one] : HIDDEN;
        }

        int placeOf(int one) {
            return folk.has(one) ? places[one] : HIDDEN;
        }

        int tellsSince(int one) {
            return folk.has(one) ? tellsSince[one] : HIDDEN;
        }

        int howManyAreHome() {
            int home = 0;
            for (int j = 0; j < folk.size(); j++) {
                if (isBit(present, j) && places[j] == NONE) {
                    home++;
                }
            }
            return home;
        }

        int whoGaveUp() {
            int who = 0;
            for (int j = 0; j < folk.size(); j++) {
                if (isBit(present, j) && held[j] < GIVEN_UP_BELOW) {
                    who |= 1 << j;
                }
            }
            return who;
        }

        /** Those, not sent, who hold so much that they would tell. */
        int whoHoldsOn() {
            int who = 0;
            for (int j = 0; j < folk.size(); j++) {
                if (isBit(moved, j) && held[j] >= TELLS_FROM) {
                    who |= 1 << j;
                }
            }
            return who;
        }

        /** Houses as told at the beginning, whatever places there are now. */
        int housesThatTold() {
            int kept = 0;
            for (int j = 0; j < folk.size(); j++) {
                if (tellsSince[j] != NONE) {
                    kept |= 1 << folk.houses[j];
                }
            }
            return kept;
        }

        int meanHeldIn(int houses) {
            int many = 0;
            int sum = 0;
            for (int j = 0; j < folk.size(); j++) {
                if (isBit(moved, j) && isBit(houses, folk.houses[j])) {
                    many++;
                    sum += held[j];
                }
            }
            return many == 0 ? 0 : sum / many;
        }

        int worthNow(int label, int one) {
            tallyHouses();
            setLettersOfHour();
            setLettersOf(one);
            return reckoner.worthOf(law, label);
        }

        /** In how many of 100 to the number of those who may go just k do; NONE if too many may. */
        long waysThatGo(int k) {
            weigh();
            Arrays.fill(ways, 0L);
            ways[0] = 1L;
            int may = 0;
            for (int j = 0; j < folk.size(); j++) {
                if (mayGo(j)) {
                    if (may >= MOST_GOING) {
                        return NONE;
                    }
                    may++;
                    addOneWhoMay(may, within(goes[j], 0, 100));
                }
            }
            return k >= 0 && k < ways.length ? ways[k] : 0L;
        }

        private void addOneWhoMay(int may, int chance) {
            for (int i = Math.min(may, MOST_GOING); i > 0; i--) {
                ways[i] = ways[i] * (100 - chance) + ways[i - 1] * chance;
            }
            ways[0] *= 100 - chance;
        }

        private boolean mayGo(int one) {
            return isBit(moved, one) && places[one] != NONE;
        }

        /** All worths by which this hour goes are taken before anything changes. */
        private void weigh() {
            tallyHouses();
            setLettersOfHour();
            for (int j = 0; j < folk.size(); j++) {
                if (isBit(moved, j)) {
                    setLettersOf(j);
                    holdsMore[j] = reckoner.worthOf(law, LABEL_Y);
                    passesOn[j] = folk.knows[j] == 0 ? 0 : reckoner.worthOf(law, LABEL_X);
                    goes[j] = places[j] == NONE ? 0 : reckoner.worthOf(law, LABEL_G);
                }
            }
        }

        private void tallyHouses() {
            Arrays.fill(manyIn, 0);
            Arrays.fill(heldIn, 0);
            Arrays.fill(sentIn, 0);
            for (int j = 0; j < folk.size(); j++) {
                int house = places[j];
                if (isBit(present, j) && isHouse(house)) {
                    manyIn[house]++;
                    heldIn[house] += held[j];
                    sentIn[house] += folk.isSent(j) ? 1 : 0;
                }
            }
        }

        private void setLettersOfHour() {
            reckoner.setLetter(LETTER_U, folk.wordsPast(hour));
            reckoner.setLetter(LETTER_D, folk.hoursSinceWord(hour));
            reckoner.setLetter(LETTER_I, hour);
        }

        private void setLettersOf(int one) {
            if (!folk.has(one)) {
                return;
            }
            int house = places[one];
            boolean housed = isHouse(house);
            int others = housed ? manyIn[house] - 1 : 0;
            int heldByOthers = housed ? heldIn[house] - held[one] : 0;
            int sentOthers = housed ? sentIn[house] - (folk.isSent(one) ? 1 : 0) : 0;
            reckoner.setLetter(LETTER_V, held[one]);
            reckoner.setLetter(LETTER_P, putIn[one]);
            reckoner.setLetter(LETTER_N, others);
            reckoner.setLetter(LETTER_M, others > 0 ? heldByOthers / others : 0);
            reckoner.setLetter(LETTER_S, sentOthers);
        }

        private void holdMore() {
            for (int j = 0; j < folk.size(); j++) {
                if (isBit(moved, j)) {
                    held[j] = within(held[j] + holdsMore[j], 0, MOST_HELD);
                }
            }
        }

        private void tell() {
            Arrays.fill(hears, 0);
            for (int j = 0; j < folk.size(); j++) {
                if (isBit(moved, j) && held[j] >= TELLS_FROM) {
                    if (tellsSince[j] == NONE) {
                        tellsSince[j] = hour;
                    }
                    tellThoseKnown(j);
                }
            }
            for (int j = 0; j < folk.size(); j++) {
                if (isBit(moved, j)) {
                    held[j] = within(held[j] + hears[j], 0, MOST_HELD);
                }
            }
        }

        private void tellThoseKnown(int teller) {
            for (int k = 0; k < folk.size(); k++) {
                boolean near = places[teller] != NONE && places[teller] == places[k];
                if (isBit(folk.knows[teller], k) && !near) {
                    hears[k] += passesOn[teller];
                }
            }
        }

        private void goHome() {
            for (int j = 0; j < folk.size(); j++) {
                if (mayGo(j)) {
                    drawn = drawn * TIMES + PLUS;
                    if ((drawn >>> 33) % 100 < goes[j]) {
                        places[j] = NONE;
                    }
                }
            }
        }
    }

    /** The notes. */
    private static final class Notebook {
        private final int[] persons = new int[MOST_NOTES];
        private final int[] hours = new int[MOST_NOTES];
        private final int[] kinds = new int[MOST_NOTES];
        private final int[] values = new int[MOST_NOTES];
        private final int[] offs = new int[MOST_NOTES];
        private int size = 0;

        int add(int person, int hour, int kind, int value, int off) {
            if (size >= MOST_NOTES) {
                return NONE;
            }
            persons[size] = person;
            hours[size] = hour;
            kinds[size] = kind;
            values[size] = value;
            offs[size] = off;
            size++;
            return size;
        }

        int size() {
            return size;
        }

        /** Whether what was noted of these persons, as this hour begins, is so in a run that has come to it. */
        boolean agrees(Course course, int hour, int about) {
            if (course == null) {
                return false;
            }
            for (int i = 0; i < size; i++) {
                if (hours[i] == hour && isBit(about, persons[i]) && !isSo(course, i)) {
                    return false;
                }
            }
            return true;
        }

        private boolean isSo(Course course, int i) {
            if (kinds[i] == 0) {
                return Math.abs(course.heldBy(persons[i]) - values[i]) <= offs[i];
            }
            return course.placeOf(persons[i]) == values[i];
        }
    }

    /** The acts of help; sets of them are bits. */
    private static final class Acts {
        private static final int GIVE_BACK = 0;
        private static final int MOVE = 1;
        private static final int AWAY = 2;

        private final int[] persons = new int[MOST_ACTS];
        private final int[] kinds = new int[MOST_ACTS];
        private final int[] things = new int[MOST_ACTS];
        private final int[] costs = new int[MOST_ACTS];
        private int size = 0;

        int add(int person, int kind, int thing, int cost) {
            if (size >= MOST_ACTS) {
                return NONE;
            }
            persons[size] = person;
            kinds[size] = kind;
            things[size] = thing;
            costs[size] = cost;
            size++;
            return size - 1;
        }

        int size() {
            return size;
        }

        int actsFor(int person) {
            int own = 0;
            for (int i = 0; i < size; i++) {
                if (persons[i] == person) {
                    own |= 1 << i;
                }
            }
            return own;
        }

        int costOf(int set) {
            int cost = 0;
            for (int i = 0; i < size; i++) {
                cost += isBit(set, i) ? costs[i] : 0;
            }
            return cost;
        }

        int givenBackBy(int set) {
            int back = 0;
            for (int i = 0; i < size; i++) {
                back += isBit(set, i) && kinds[i] == GIVE_BACK ? things[i] : 0;
            }
            return back;
        }

        /** The last told one counts, so a later one goes over an earlier one. */
        int houseBy(int set) {
            int house = NONE;
            for (int i = 0; i < size; i++) {
                house = isBit(set, i) && kinds[i] == MOVE ? things[i] : house;
            }
            return house;
        }

        int goneBy(int set) {
            int gone = 0;
            for (int i = 0; i < size; i++) {
                gone |= isBit(set, i) && kinds[i] == AWAY ? 1 << things[i] : 0;
            }
            return gone;
        }

        boolean isLess(int set, int other) {
            int cost = Integer.compare(costOf(set), costOf(other));
            int many = Integer.compare(Integer.bitCount(set), Integer.bitCount(other));
            if (cost != 0) {
                return cost < 0;
            }
            return many != 0 ? many < 0 : isLowerFirst(set, other);
        }
    }
}
