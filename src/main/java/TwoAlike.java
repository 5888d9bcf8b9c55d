/** People who may be alike, their days, hats, sights and twins. What each call promises: ../shared/DOC.md. */
public final class TwoAlike {
    public static final int BAD = -1, NOT = -2, FULL = -3, STATE = -5, VOID = -2000000000;

    private static final int NOTHING_THERE = -11, OTHER_KIND = -12, NO_PLACE = -13, BELOW_ZERO = -14;
    private static final int MOST_PEOPLE = 7, PARTS = 6, ALL_PARTS = 63, NO_HAT = -1;
    private static final int MOST_ERRANDS = 4, LONGEST_ERRAND = 6, STREETS = 5, AT_HOME = -1;
    private static final int MINUTES = 30, MONTHS = 12, MOST_EASE = 6, MOST_SIGHTS = 10;
    private static final int MOST_BYTES = 120, NOBODY = -1;
    private static final int TO_LOOKS = 0, TO_MAY_CHANGE = 1, TO_DRIFT = 2, TO_EASE = 3, TO_MONTH = 4;

    private final Scene scene = new Scene();
    private final Scene imageOfScene = new Scene();
    private boolean hasImage;
    private int peopleInImage;
    private final Crowd crowd = new Crowd(scene);
    private final Law theLaw = new Law();
    private final Tape tape = new Tape();
    private final Likeness likeness = new Likeness(crowd, theLaw);
    private final Day day = new Day(crowd, likeness);
    private final Wardrobe wardrobe = new Wardrobe(crowd, likeness);
    private final Sightings sightings = new Sightings(scene, crowd, likeness);
    private final Changes changes = new Changes(crowd);
    private final Twins twins = new Twins();
    private final Shelves shelves = new Shelves();

    public TwoAlike() {
    }

    // ---- people, errands

    public int person(int looks, int mayChange) {
        if (!isParts(looks) || !isParts(mayChange)) return BAD;
        return crowd.come(looks, mayChange);
    }

    public int people(int shelf, int i, int n) {
        if (!shelves.isShelf(shelf) || n < 1 || n > MOST_PEOPLE) return BAD;
        if (shelves.isBare(shelf)) return 0;
        if (!shelves.isRowOf(shelf, Shelves.BYTES)) return OTHER_KIND;
        return comeFromRow(shelf, i, n);
    }

    /** A place that is not there, ahead of the row too, is where the row ends: nobody comes from it. */
    private int comeFromRow(int shelf, int i, int n) {
        if (i < 0) return 0;
        int size = shelves.sizeOf(shelf);
        int came = 0;
        for (int at = i; at < size - 1 && came < n; at += 2) {
            long looks = shelves.read(shelf, at);
            long mayChange = shelves.read(shelf, at + 1);
            if (!isParts(looks) || !isParts(mayChange)) return came;
            if (crowd.come((int) looks, (int) mayChange) == FULL) return came;
            came++;
        }
        return came;
    }

    public int errand(int person, int sm) {
        if (!crowd.has(person) || sm < 0) return BAD;
        int street = sm / 10;
        int minutes = sm % 10;
        if (street >= STREETS || minutes < 1 || minutes > LONGEST_ERRAND) return BAD;
        return crowd.addErrand(person, street, minutes);
    }

    public int clear(int person) {
        if (!crowd.has(person)) return BAD;
        return crowd.dropErrands(person);
    }

    public int hat(int person, int part) {
        if (!crowd.has(person) || !crowd.mayWear(person, part)) return VOID;
        int was = crowd.hatOf(person);
        scene.hats[person] = part;
        return was;
    }

    public int mend(int number, int what, int v) {
        if (!mayBecome(number, what, v)) return BAD;
        int was = crowd.told(number, what);
        if (was != v) changes.make(number, what, was, v);
        return was;
    }

    private boolean mayBecome(int number, int what, int v) {
        switch (what) {
            case TO_LOOKS:
            case TO_MAY_CHANGE:
            case TO_DRIFT:
                return crowd.has(number) && isParts(v);
            case TO_EASE:
                return number == 0 && v >= 0 && v <= MOST_EASE;
            case TO_MONTH:
                return number == 0 && v >= 0 && v < MONTHS;
            default:
                return false;
        }
    }

    public int of(int number, int what) {
        if (what >= 0 && what <= 6) return crowd.has(number) ? ofPerson(number, what) : VOID;
        if (what >= 20 && what <= 22) return scene.hasSight(number) ? ofSight(number, what) : VOID;
        if (number != 0) return VOID;
        if (what == 10) return crowd.ease;
        return what == 11 ? crowd.month : VOID;
    }

    private int ofPerson(int person, int what) {
        switch (what) {
            case 3: return crowd.hatOf(person);
            case 4: return crowd.seen(person);
            case 5: return crowd.errands[person];
            case 6: return crowd.minutesOf(person);
            default: return crowd.told(person, what);
        }
    }

    private int ofSight(int number, int what) {
        switch (what) {
            case 20: return scene.sightMinutes[number];
            case 21: return scene.sightStreets[number];
            default: return scene.sightLooks[number];
        }
    }

    public int feed(int letter) {
        if (letter < 0 || letter > 255) return BAD;
        return tape.take(letter);
    }

    public int law() {
        boolean goes = tape.isText();
        int fault = tape.at;
        if (goes) theLaw.copy(tape.draft);
        tape.length = 0;
        return goes ? 1 : -100 - fault;
    }

    public int alike(int pq) {
        if (!crowd.hasTwo(pq)) return BAD;
        return likeness.isAfter(pq / 10, pq % 10, 0) ? 1 : 0;
    }

    // ---- days

    public int plan() {
        day.layByNumbers();
        day.remember();
        return day.waitedByAll();
    }

    public int where(int person, int minute) {
        if (!crowd.has(person) || !isMinute(minute)) return VOID;
        day.layByNumbers();
        return day.streetOf(person, minute);
    }

    public int waited(int person, int what) {
        if (!crowd.has(person) || what < 0 || what > 1) return BAD;
        day.layByNumbers();
        if (what == 0) return day.waits[person];
        return day.barred[person] ? 1 : 0;
    }

    public int best(int k) {
        if (k < -1 || k >= crowd.size) return BAD;
        day.findBestOrder();
        return k < 0 ? day.leastSum : day.bestOrder[k];
    }

    public int bars(int person) {
        if (!crowd.has(person)) return BAD;
        return day.whoBars(person);
    }

    public int led(int person, int what) {
        if (!crowd.has(person) || what < 0 || what > 1) return BAD;
        if (person >= day.ledPeople) return STATE;
        if (day.ledFirst[person] < 0) return NOT;
        return what == 0 ? day.ledFirst[person] : day.ledLast[person];
    }

    // ---- hats, kinds

    public int hats(int person) {
        if (person != NOBODY && !crowd.has(person)) return VOID;
        if (!wardrobe.findFewest()) return NOT;
        return person == NOBODY ? wardrobe.fewest : wardrobe.fewestHats[person];
    }

    public int needs() {
        return likeness.pairsAfter(0);
    }

    public int kinds(int what) {
        if (what < 0 || what > 1) return BAD;
        int set = likeness.greatestKind();
        return what == 0 ? Integer.bitCount(set) : set;
    }

    public int pass(int pq) {
        if (!crowd.hasTwo(pq)) return VOID;
        return likeness.hatToPass(pq / 10, pq % 10);
    }

    // ---- told days, sights

    public int go(int person, int ft, int street) {
        if (!crowd.has(person) || ft < 0) return BAD;
        int from = ft / 100;
        int to = ft % 100;
        if (from > to || !isMinute(to) || street < AT_HOME || street >= STREETS) return BAD;
        return scene.tellDay(person, from, to, street);
    }

    public int judge(int what) {
        if (what < 0 || what > 2) return BAD;
        int found = sightings.firstMeeting();
        if (found == NOT) return NOT;
        if (what == 0) return found / 100;
        return what == 1 ? found / 10 % 10 : found % 10;
    }

    public int watch(int pq, int what) {
        if (!crowd.hasTwo(pq) || what < 0 || what > 1) return BAD;
        if (what == 0) return scene.firstApart(pq / 10, pq % 10);
        return scene.minutesApart(pq / 10, pq % 10);
    }

    public int sight(int ms, int looks) {
        if (ms < 0 || !isMinute(ms / 10) || ms % 10 >= STREETS || !isParts(looks)) return BAD;
        return scene.addSight(ms / 10, ms % 10, looks);
    }

    public int atLeast(int hats) {
        if (hats < 0 || hats > PARTS) return BAD;
        return sightings.fewestPeople(hats);
    }

    public int who(int sight) {
        if (!scene.hasSight(sight)) return BAD;
        return sightings.whoCanBe(sight);
    }

    public int gone(int minute, int what) {
        if (!isMinute(minute) || what < 0 || what > 1) return BAD;
        int goneOnes = sightings.goneFrom(minute);
        return what == 0 ? goneOnes : sightings.livedOn(goneOnes);
    }

    // ---- months

    public int months(int n) {
        if (n < 1 || n > MONTHS) return BAD;
        return likeness.pairsAfter(n);
    }

    public int turn() {
        return crowd.turnMonth();
    }

    public int image() {
        imageOfScene.copy(scene);
        hasImage = true;
        peopleInImage = crowd.size;
        return peopleInImage;
    }

    /** Whoever came since the image stands in it without a hat and at home, as everybody not yet there does. */
    public int back() {
        if (!hasImage) return STATE;
        scene.copy(imageOfScene);
        return peopleInImage;
    }

    public int undo() {
        return changes.takeBack();
    }

    public int redo() {
        return changes.makeAgain();
    }

    // ---- acts, shelves

    public int body(int kind) {
        if (!Twins.isKind(kind)) return BAD;
        return twins.add(kind);
    }

    public int act(int body, int act, int x) {
        return twins.begin(body, act, x);
    }

    public int trace(int i) {
        return i >= 0 && i < twins.traced() ? twins.began[i] : BAD;
    }

    public int keep(int shelf, int body) {
        if (!shelves.isShelf(shelf) || (body != NOBODY && !twins.has(body))) return BAD;
        return shelves.holdTwin(shelf, body);
    }

    public int row(int shelf, int sort, int n) {
        if (!shelves.isShelf(shelf) || !shelves.isSort(sort) || n > Shelves.LONGEST_ROW) return BAD;
        if (n < 0) return BELOW_ZERO;
        return shelves.holdRow(shelf, sort, n);
    }

    public int put(int shelf, int i, long v) {
        int refusal = shelves.refusal(shelf, i);
        if (refusal != 0) return refusal;
        shelves.write(shelf, i, v);
        return 1;
    }

    public long element(int shelf, int i) {
        return shelves.refusal(shelf, i) == 0 ? shelves.read(shelf, i) : Long.MIN_VALUE;
    }

    public int shift(int shelf, int i, int other, int j, int n) {
        if (!shelves.isShelf(shelf) || !shelves.isShelf(other)) return BAD;
        return shelves.move(shelf, i, other, j, n);
    }

    public int taken(int shelf, int k) {
        if (!shelves.isShelf(shelf) || !Twins.isKind(k)) return BAD;
        if (shelves.isBare(shelf)) return NOTHING_THERE;
        int twin = shelves.twinOn(shelf);
        if (!twins.has(twin)) return OTHER_KIND;
        int kind = twins.kindOf[twin];
        return Twins.isUnder(kind, k) ? kind : OTHER_KIND;
    }

    public int count(int what) {
        switch (what) {
            case 0: return crowd.size;
            case 1: return crowd.errandsOfAll();
            case 2: return scene.sights;
            case 3: return tape.length;
            case 4: return changes.made;
            case 5: return twins.size;
            case 6: return twins.ran;
            default: return BAD;
        }
    }

    private static boolean isParts(long bits) {
        return bits >= 0 && bits <= ALL_PARTS;
    }

    private static boolean isMinute(int minute) {
        return minute >= 0 && minute < MINUTES;
    }

    /** What an image keeps: hats, told days, sights. Rows of people who have not come hold no hat and home. */
    private static final class Scene {
        final int[] hats = new int[MOST_PEOPLE];
        final int[] streets = new int[MOST_PEOPLE * MINUTES];
        final int[] sightMinutes = new int[MOST_SIGHTS];
        final int[] sightStreets = new int[MOST_SIGHTS];
        final int[] sightLooks = new int[MOST_SIGHTS];
        int sights;

        Scene() {
            for (int p = 0; p < MOST_PEOPLE; p++) hats[p] = NO_HAT;
            for (int k = 0; k < MOST_PEOPLE * MINUTES; k++) streets[k] = AT_HOME;
        }

        void copy(Scene other) {
            for (int p = 0; p < MOST_PEOPLE; p++) hats[p] = other.hats[p];
            for (int k = 0; k < MOST_PEOPLE * MINUTES; k++) streets[k] = other.streets[k];
            for (int s = 0; s < MOST_SIGHTS; s++) {
                sightMinutes[s] = other.sightMinutes[s];
                sightStreets[s] = other.sightStreets[s];
                sightLooks[s] = other.sightLooks[s];
            }
            sights = other.sights;
        }

        boolean hasSight(int number) {
            return number >= 0 && number < sights;
        }

        int addSight(int minute, int street, int looks) {
            if (sights >= MOST_SIGHTS) return FULL;
            sightMinutes[sights] = minute;
            sightStreets[sights] = street;
            sightLooks[sights] = looks;
            sights++;
            return sights - 1;
        }

        int tellDay(int person, int from, int to, int street) {
            for (int minute = from; minute <= to; minute++) streets[person * MINUTES + minute] = street;
            return to - from + 1;
        }

        int toldStreet(int person, int minute) {
            return streets[person * MINUTES + minute];
        }

        int firstApart(int p, int q) {
            for (int minute = 0; minute < MINUTES; minute++) {
                int street = toldStreet(p, minute);
                if (street != AT_HOME && street != toldStreet(q, minute)) return 10 * minute + street;
            }
            return NOT;
        }

        int minutesApart(int p, int q) {
            int apart = 0;
            for (int minute = 0; minute < MINUTES; minute++) {
                if (toldStreet(p, minute) != toldStreet(q, minute)) apart++;
            }
            return apart;
        }
    }

    private static final class Crowd {
        final Scene scene;
        final int[] looks = new int[MOST_PEOPLE];
        final int[] mayChange = new int[MOST_PEOPLE];
        final int[] drift = new int[MOST_PEOPLE];
        final int[] errands = new int[MOST_PEOPLE];
        final int[] errandStreets = new int[MOST_PEOPLE * MOST_ERRANDS];
        final int[] errandMinutes = new int[MOST_PEOPLE * MOST_ERRANDS];
        int size;
        int ease;
        int month;

        Crowd(Scene scene) {
            this.scene = scene;
        }

        boolean has(int person) {
            return person >= 0 && person < size;
        }

        /** Whether a number told as 10 times the one and the other names two people. */
        boolean hasTwo(int pq) {
            return pq >= 0 && has(pq / 10) && has(pq % 10) && pq / 10 != pq % 10;
        }

        int everybody() {
            return (1 << size) - 1;
        }

        int come(int itsLooks, int itsMayChange) {
            if (size >= MOST_PEOPLE) return FULL;
            looks[size] = itsLooks;
            mayChange[size] = itsMayChange;
            size++;
            return size - 1;
        }

        int addErrand(int person, int street, int minutes) {
            int number = errands[person];
            if (number >= MOST_ERRANDS) return FULL;
            errandStreets[person * MOST_ERRANDS + number] = street;
            errandMinutes[person * MOST_ERRANDS + number] = minutes;
            errands[person] = number + 1;
            return number + 1;
        }

        int dropErrands(int person) {
            int had = errands[person];
            errands[person] = 0;
            return had;
        }

        int minutesOf(int person) {
            int sum = 0;
            for (int k = 0; k < errands[person]; k++) sum += errandMinutes[person * MOST_ERRANDS + k];
            return sum;
        }

        int errandsOfAll() {
            int sum = 0;
            for (int p = 0; p < size; p++) sum += errands[p];
            return sum;
        }

        int hatOf(int person) {
            return scene.hats[person];
        }

        boolean mayWear(int person, int hat) {
            if (hat == NO_HAT) return true;
            return hat >= 0 && hat < PARTS && (mayChange[person] >> hat & 1) == 1;
        }

        int seen(int person) {
            return withHat(looks[person], scene.hats[person]);
        }

        int seenWith(int person, int hat) {
            return withHat(looks[person], hat);
        }

        int seenAfter(int person, int months) {
            int then = months % 2 == 0 ? looks[person] : looks[person] ^ drift[person];
            return withHat(then, scene.hats[person]);
        }

        private static int withHat(int bareLooks, int hat) {
            return hat == NO_HAT ? bareLooks : bareLooks ^ 1 << hat;
        }

        int told(int number, int what) {
            switch (what) {
                case TO_LOOKS: return looks[number];
                case TO_MAY_CHANGE: return mayChange[number];
                case TO_DRIFT: return drift[number];
                case TO_EASE: return ease;
                default: return month;
            }
        }

        void tell(int number, int what, int v) {
            switch (what) {
                case TO_LOOKS: looks[number] = v; break;
                case TO_MAY_CHANGE: mayChange[number] = v; break;
                case TO_DRIFT: drift[number] = v; break;
                case TO_EASE: ease = v; break;
                default: month = v; break;
            }
        }

        int turnMonth() {
            for (int p = 0; p < size; p++) looks[p] ^= drift[p];
            month = (month + 1) % MONTHS;
            return month;
        }
    }

    /** A text as steps over a stack: operands ahead of their sign, so that no call need read the text again. */
    private static final class Law {
        // A text of 120 bytes makes 120 steps at most, and one more where its last line ends.
        static final int MOST_STEPS = MOST_BYTES + 8;
        static final int NUMBER = '0', NAME = 'a', NEGATIVE = '~', UNLESS_ZERO = '?', LINE_END = ';';

        final int[] signs = new int[MOST_STEPS];
        final int[] values = new int[MOST_STEPS];
        int length;
        private final int[] stack = new int[MOST_STEPS];
        private int top;
        private final int[] names = new int[6];

        void copy(Law other) {
            length = other.length;
            for (int k = 0; k < MOST_STEPS; k++) {
                signs[k] = other.signs[k];
                values[k] = other.values[k];
            }
        }

        void add(int sign, int value) {
            if (length >= MOST_STEPS) return;
            signs[length] = sign;
            values[length] = value;
            length++;
        }

        /** A line whose first part is 0 goes on at the step that comes next. */
        void endSkip(int step) {
            if (step >= 0 && step < length) values[step] = length;
        }

        boolean holds(int seen, int other, int hats, int month, int ease) {
            int differing = Integer.bitCount(seen ^ other);
            if (length == 0) return differing <= ease;
            names[0] = differing;
            names[1] = Math.min(seen, other);
            names[2] = Math.max(seen, other);
            names[3] = hats;
            names[4] = month;
            names[5] = ease;
            top = 0;
            int at = 0;
            for (int step = 0; step < MOST_STEPS && at < length; step++) {
                int sign = signs[at];
                if (sign == LINE_END) return pop() != 0;
                if (sign == UNLESS_ZERO && pop() == 0) {
                    at = values[at];
                } else {
                    run(sign, values[at]);
                    at++;
                }
            }
            return false;
        }

        private void run(int sign, int value) {
            switch (sign) {
                case UNLESS_ZERO: break;
                case NUMBER: push(value); break;
                case NAME: push(value >= 0 && value < names.length ? names[value] : 0); break;
                case NEGATIVE: push(-pop()); break;
                case '!': push(pop() == 0 ? 1 : 0); break;
                default:
                    int right = pop();
                    push(joined(sign, pop(), right));
                    break;
            }
        }

        private static int joined(int sign, int left, int right) {
            switch (sign) {
                case '|': return left != 0 || right != 0 ? 1 : 0;
                case '&': return left != 0 && right != 0 ? 1 : 0;
                case '<': return left < right ? 1 : 0;
                case '=': return left == right ? 1 : 0;
                case '>': return left > right ? 1 : 0;
                case '+': return left + right;
                case '-': return left - right;
                case '*': return left * right;
                case '/': return right == 0 ? 0 : left / right;
                default: return right == 0 ? 0 : left % right;
            }
        }

        private void push(int value) {
            if (top >= MOST_STEPS) return;
            stack[top] = value;
            top++;
        }

        private int pop() {
            if (top <= 0) return 0;
            top--;
            return stack[top];
        }
    }

    /** Reads the text by its first bytes alone, so that where it stops is the first byte with which none goes on. */
    private static final class Tape {
        static final int END = -1, MOST_OPEN = 6, MOST_DIGITS = 4;

        final Law draft = new Law();
        private final int[] letters = new int[MOST_BYTES];
        int length;
        int at;

        int take(int letter) {
            if (length >= MOST_BYTES) return FULL;
            letters[length] = letter;
            length++;
            return length;
        }

        boolean isText() {
            at = 0;
            draft.length = 0;
            boolean more = true;
            for (int k = 0; k <= MOST_BYTES && more; k++) {
                if (!readLine()) return false;
                more = passOver(';');
            }
            return at == length;
        }

        private int next() {
            return at < length ? letters[at] : END;
        }

        private boolean passOver(int letter) {
            if (next() != letter) return false;
            at++;
            return true;
        }

        private boolean readLine() {
            if (!readEither(0)) return false;
            if (passOver('?')) {
                int skip = draft.length;
                draft.add(Law.UNLESS_ZERO, 0);
                if (!readEither(0)) return false;
                draft.add(Law.LINE_END, 0);
                draft.endSkip(skip);
            } else {
                draft.add(Law.LINE_END, 0);
            }
            return true;
        }

        private boolean readEither(int open) {
            if (!readBoth(open)) return false;
            for (int k = 0; k < MOST_BYTES && passOver('|'); k++) {
                if (!readBoth(open)) return false;
                draft.add('|', 0);
            }
            return true;
        }

        private boolean readBoth(int open) {
            if (!readComparison(open)) return false;
            for (int k = 0; k < MOST_BYTES && passOver('&'); k++) {
                if (!readComparison(open)) return false;
                draft.add('&', 0);
            }
            return true;
        }

        private boolean readComparison(int open) {
            if (!readSum(open)) return false;
            int sign = next();
            if (sign != '<' && sign != '=' && sign != '>') return true;
            at++;
            if (!readSum(open)) return false;
            draft.add(sign, 0);
            return true;
        }

        private boolean readSum(int open) {
            if (!readProduct(open)) return false;
            for (int k = 0; k < MOST_BYTES; k++) {
                int sign = next();
                if (sign != '+' && sign != '-') return true;
                at++;
                if (!readProduct(open)) return false;
                draft.add(sign, 0);
            }
            return true;
        }

        private boolean readProduct(int open) {
            if (!readOperand(open)) return false;
            for (int k = 0; k < MOST_BYTES; k++) {
                int sign = next();
                if (sign != '*' && sign != '/' && sign != '%') return true;
                at++;
                if (!readOperand(open)) return false;
                draft.add(sign, 0);
            }
            return true;
        }

        private boolean readOperand(int open) {
            int letter = next();
            if (isDigit(letter)) return readNumber();
            int name = nameOf(letter);
            if (name >= 0) {
                at++;
                draft.add(Law.NAME, name);
                return true;
            }
            if (letter != '(' && letter != '!' && letter != '-') return false;
            if (open >= MOST_OPEN) return false;
            at++;
            return readOpened(letter, open + 1);
        }

        private boolean readOpened(int letter, int open) {
            if (letter == '(') return readEither(open) && passOver(')');
            if (!readOperand(open)) return false;
            draft.add(letter == '!' ? '!' : Law.NEGATIVE, 0);
            return true;
        }

        private boolean readNumber() {
            int number = 0;
            for (int k = 0; k < MOST_DIGITS && isDigit(next()); k++) {
                number = number * 10 + next() - '0';
                at++;
            }
            draft.add(Law.NUMBER, number);
            return true;
        }

        private static boolean isDigit(int letter) {
            return letter >= '0' && letter <= '9';
        }

        private static int nameOf(int letter) {
            switch (letter) {
                case 'd': return 0;
                case 'a': return 1;
                case 'b': return 2;
                case 'h': return 3;
                case 'm': return 4;
                case 'e': return 5;
                default: return -1;
            }
        }
    }

    private static final class Likeness {
        private final Crowd crowd;
        private final Law theLaw;
        final int[] likes = new int[MOST_PEOPLE];

        Likeness(Crowd crowd, Law theLaw) {
            this.crowd = crowd;
            this.theLaw = theLaw;
        }

        boolean isAfter(int p, int q, int months) {
            int hats = worn(crowd.hatOf(p)) + worn(crowd.hatOf(q));
            int month = (crowd.month + months) % MONTHS;
            return theLaw.holds(crowd.seenAfter(p, months), crowd.seenAfter(q, months), hats, month, crowd.ease);
        }

        boolean isWith(int p, int hatOfP, int q, int hatOfQ) {
            int hats = worn(hatOfP) + worn(hatOfQ);
            return theLaw.holds(crowd.seenWith(p, hatOfP), crowd.seenWith(q, hatOfQ), hats, crowd.month, crowd.ease);
        }

        private static int worn(int hat) {
            return hat == NO_HAT ? 0 : 1;
        }

        /** Keeps of each whom it is alike to now, as bits, so that a search asks the law once a pair. */
        void lookAround() {
            for (int p = 0; p < MOST_PEOPLE; p++) likes[p] = 0;
            for (int p = 0; p < crowd.size; p++) {
                for (int q = p + 1; q < crowd.size; q++) {
                    if (!isAfter(p, q, 0)) continue;
                    likes[p] |= 1 << q;
                    likes[q] |= 1 << p;
                }
            }
        }

        int pairsAfter(int months) {
            int pairs = 0;
            for (int p = 0; p < crowd.size; p++) {
                for (int q = p + 1; q < crowd.size; q++) {
                    if (isAfter(p, q, months)) pairs++;
                }
            }
            return pairs;
        }

        int greatestKind() {
            lookAround();
            int greatest = 0;
            for (int set = 1; set <= crowd.everybody(); set++) {
                if (Integer.bitCount(set) > Integer.bitCount(greatest) && isKind(set)) greatest = set;
            }
            return greatest;
        }

        private boolean isKind(int set) {
            for (int p = 0; p < crowd.size; p++) {
                if ((set >> p & 1) == 1 && (set & ~likes[p]) != 1 << p) return false;
            }
            return true;
        }

        int hatToPass(int p, int q) {
            for (int hat = NO_HAT; hat < PARTS; hat++) {
                if (crowd.mayWear(p, hat) && isWith(p, hat, q, crowd.hatOf(q))) return hat;
            }
            return NOT;
        }
    }

    /** Plans; the minutes of a person in a street are bits of one int, so that a turn is placed by masks. */
    private static final class Day {
        static final int COST_OF_BARRED = 30;

        private final Crowd crowd;
        private final Likeness likeness;
        private final int[] out = new int[MOST_PEOPLE * STREETS];
        private final int[] first = new int[MOST_PEOPLE];
        private final int[] last = new int[MOST_PEOPLE];
        final int[] waits = new int[MOST_PEOPLE];
        final boolean[] barred = new boolean[MOST_PEOPLE];
        private final int[] order = new int[MOST_PEOPLE];
        final int[] bestOrder = new int[MOST_PEOPLE];
        int leastSum;
        final int[] ledFirst = new int[MOST_PEOPLE];
        final int[] ledLast = new int[MOST_PEOPLE];
        int ledPeople;

        Day(Crowd crowd, Likeness likeness) {
            this.crowd = crowd;
            this.likeness = likeness;
        }

        void layByNumbers() {
            likeness.lookAround();
            layWithout(NOBODY);
        }

        private void layWithout(int missing) {
            int ahead = 0;
            for (int p = 0; p < crowd.size; p++) {
                if (p == missing) continue;
                takeTurn(p, ahead);
                ahead |= 1 << p;
            }
        }

        /** Places a person's errands behind those ahead (bits): what it adds to the sum that all waited. */
        private int takeTurn(int p, int ahead) {
            stayAtHome(p);
            int from = 0;
            for (int k = 0; k < crowd.errands[p]; k++) {
                int street = crowd.errandStreets[p * MOST_ERRANDS + k];
                int minutes = crowd.errandMinutes[p * MOST_ERRANDS + k];
                int start = firstFree(shutMinutes(likeness.likes[p] & ahead, street), from, minutes);
                if (start < 0) {
                    stayAtHome(p);
                    barred[p] = true;
                    return COST_OF_BARRED;
                }
                if (k == 0) first[p] = start;
                out[p * STREETS + street] |= (1 << minutes) - 1 << start;
                from = start + minutes;
            }
            last[p] = from - 1;
            waits[p] = from - crowd.minutesOf(p);
            return waits[p];
        }

        private void stayAtHome(int p) {
            for (int street = 0; street < STREETS; street++) out[p * STREETS + street] = 0;
            first[p] = -1;
            last[p] = -1;
            waits[p] = 0;
            barred[p] = false;
        }

        private int shutMinutes(int others, int street) {
            int shut = 0;
            for (int q = 0; q < crowd.size; q++) {
                if ((others >> q & 1) == 1) shut |= out[q * STREETS + street];
            }
            return shut;
        }

        private static int firstFree(int shut, int from, int minutes) {
            int wanted = (1 << minutes) - 1;
            for (int start = from; start + minutes <= MINUTES; start++) {
                if ((shut >> start & wanted) == 0) return start;
            }
            return -1;
        }

        int waitedByAll() {
            int sum = 0;
            for (int p = 0; p < crowd.size; p++) sum += barred[p] ? COST_OF_BARRED : waits[p];
            return sum;
        }

        int streetOf(int p, int minute) {
            for (int street = 0; street < STREETS; street++) {
                if ((out[p * STREETS + street] >> minute & 1) == 1) return street;
            }
            return AT_HOME;
        }

        void remember() {
            for (int p = 0; p < crowd.size; p++) {
                ledFirst[p] = first[p];
                ledLast[p] = last[p];
            }
            ledPeople = crowd.size;
        }

        int whoBars(int person) {
            likeness.lookAround();
            layWithout(NOBODY);
            int waited = waits[person];
            boolean wasBarred = barred[person];
            for (int q = 0; q < person; q++) {
                layWithout(q);
                if (waits[person] < waited || (wasBarred && !barred[person])) return q;
            }
            return NOT;
        }

        void findBestOrder() {
            likeness.lookAround();
            leastSum = MOST_PEOPLE * COST_OF_BARRED + 1;
            orderFrom(0, 0, 0);
        }

        private void orderFrom(int place, int ahead, int sum) {
            if (place >= crowd.size) {
                keepOrder(sum);
                return;
            }
            if (leastToCome(ahead, sum) >= leastSum) return;
            for (int p = 0; p < crowd.size; p++) {
                if ((ahead >> p & 1) == 0) orderWith(p, place, ahead, sum);
            }
        }

        private void orderWith(int p, int place, int ahead, int sum) {
            order[place] = p;
            int cost = takeTurn(p, ahead);
            orderFrom(place + 1, ahead | 1 << p, sum + cost);
        }

        /** Nobody waits less for having more people ahead, so that this is never above what the sum becomes. */
        private int leastToCome(int ahead, int sum) {
            int least = sum;
            for (int p = 0; p < crowd.size; p++) {
                if ((ahead >> p & 1) == 0) least += takeTurn(p, ahead);
            }
            return least;
        }

        private void keepOrder(int sum) {
            if (sum >= leastSum) return;
            leastSum = sum;
            for (int k = 0; k < crowd.size; k++) bestOrder[k] = order[k];
        }
    }

    /** Searches who wears what; a choice is a number: 0 no hat, else the part and 1. */
    private static final class Wardrobe {
        static final int CHOICES = PARTS + 1;

        private final Crowd crowd;
        private final Likeness likeness;
        // By person, choice and later person: the later one's choices by which the two are alike, as bits.
        private final int[] clashes = new int[MOST_PEOPLE * CHOICES * MOST_PEOPLE];
        // By how many have chosen and person: the choices still free, as bits.
        private final int[] free = new int[(MOST_PEOPLE + 1) * MOST_PEOPLE];
        private final int[] hats = new int[MOST_PEOPLE];
        final int[] fewestHats = new int[MOST_PEOPLE];
        int fewest;

        Wardrobe(Crowd crowd, Likeness likeness) {
            this.crowd = crowd;
            this.likeness = likeness;
        }

        boolean findFewest() {
            for (int p = 0; p < crowd.size; p++) {
                free[p] = 1 | crowd.mayChange[p] << 1;
                for (int choice = 0; choice < CHOICES; choice++) findClashes(p, choice);
            }
            fewest = MOST_PEOPLE + 1;
            chooseFrom(0, 0);
            return fewest <= MOST_PEOPLE;
        }

        private void findClashes(int p, int choice) {
            if (!crowd.mayWear(p, choice - 1)) return;
            for (int q = p + 1; q < crowd.size; q++) {
                int alikeBy = 0;
                for (int other = 0; other < CHOICES; other++) {
                    if (!crowd.mayWear(q, other - 1)) continue;
                    if (likeness.isWith(p, choice - 1, q, other - 1)) alikeBy |= 1 << other;
                }
                clashes[(p * CHOICES + choice) * MOST_PEOPLE + q] = alikeBy;
            }
        }

        private void chooseFrom(int p, int worn) {
            if (worn + mustWear(p) >= fewest) return;
            if (p >= crowd.size) {
                fewest = worn;
                for (int k = 0; k < crowd.size; k++) fewestHats[k] = hats[k];
                return;
            }
            for (int choice = 0; choice < CHOICES; choice++) {
                if ((free[p * MOST_PEOPLE + p] >> choice & 1) == 1) choose(p, choice, worn);
            }
        }

        private void choose(int p, int choice, int worn) {
            hats[p] = choice - 1;
            if (leavesFree(p, choice)) chooseFrom(p + 1, choice == 0 ? worn : worn + 1);
        }

        private boolean leavesFree(int p, int choice) {
            for (int q = p + 1; q < crowd.size; q++) {
                int left = free[p * MOST_PEOPLE + q] & ~clashes[(p * CHOICES + choice) * MOST_PEOPLE + q];
                if (left == 0) return false;
                free[(p + 1) * MOST_PEOPLE + q] = left;
            }
            return true;
        }

        private int mustWear(int chosen) {
            int must = 0;
            for (int q = chosen; q < crowd.size; q++) {
                if ((free[chosen * MOST_PEOPLE + q] & 1) == 0) must++;
            }
            return must;
        }
    }

    /** What told days and sights tell of the people. */
    private static final class Sightings {
        private final Scene scene;
        private final Crowd crowd;
        private final Likeness likeness;
        private final int[] barring = new int[MOST_SIGHTS];
        private final int[] sets = new int[MOST_SIGHTS];
        private int fewest;

        Sightings(Scene scene, Crowd crowd, Likeness likeness) {
            this.scene = scene;
            this.crowd = crowd;
            this.likeness = likeness;
        }

        /** 100 times the minute, 10 times the lesser, and the other one; NOT. */
        int firstMeeting() {
            likeness.lookAround();
            for (int minute = 0; minute < MINUTES; minute++) {
                int two = firstTwoIn(minute);
                if (two != NOT) return 100 * minute + two;
            }
            return NOT;
        }

        private int firstTwoIn(int minute) {
            for (int p = 0; p < crowd.size; p++) {
                int street = scene.toldStreet(p, minute);
                if (street == AT_HOME) continue;
                for (int q = p + 1; q < crowd.size; q++) {
                    boolean isAlike = (likeness.likes[p] >> q & 1) == 1;
                    if (isAlike && scene.toldStreet(q, minute) == street) return 10 * p + q;
                }
            }
            return NOT;
        }

        int fewestPeople(int hats) {
            for (int i = 0; i < scene.sights; i++) {
                sets[i] = 0;
                barring[i] = 0;
                for (int j = 0; j < scene.sights; j++) {
                    if (bar(i, j, hats)) barring[i] |= 1 << j;
                }
            }
            fewest = MOST_SIGHTS + 1;
            shareOutFrom(0, 0);
            return fewest;
        }

        private boolean bar(int i, int j, int hats) {
            int differing = scene.sightLooks[i] ^ scene.sightLooks[j];
            if (Integer.bitCount(differing) > hats) return true;
            if (scene.sightMinutes[i] != scene.sightMinutes[j]) return false;
            return differing != 0 || scene.sightStreets[i] != scene.sightStreets[j];
        }

        private void shareOutFrom(int sight, int used) {
            if (used >= fewest) return;
            if (sight >= scene.sights) {
                fewest = used;
                return;
            }
            for (int set = 0; set <= used && set < MOST_SIGHTS; set++) {
                if ((sets[set] & barring[sight]) == 0) shareInto(set, sight, used);
            }
        }

        private void shareInto(int set, int sight, int used) {
            sets[set] |= 1 << sight;
            shareOutFrom(sight + 1, set == used ? used + 1 : used);
            sets[set] &= ~(1 << sight);
        }

        int whoCanBe(int sight) {
            int bits = 0;
            for (int p = 0; p < crowd.size; p++) {
                if (canLook(p, scene.sightLooks[sight])) bits |= 1 << p;
            }
            return bits;
        }

        /** A hat that may no longer be put on can still be worn, so that how one looks now is asked too. */
        private boolean canLook(int p, int looks) {
            if (crowd.seen(p) == looks) return true;
            for (int hat = NO_HAT; hat < PARTS; hat++) {
                if (crowd.mayWear(p, hat) && crowd.seenWith(p, hat) == looks) return true;
            }
            return false;
        }

        int goneFrom(int minute) {
            int there = 0;
            for (int sight = 0; sight < scene.sights; sight++) {
                if (scene.sightMinutes[sight] >= minute) there |= whoCanBe(sight);
            }
            return crowd.everybody() & ~there;
        }

        int livedOn(int gone) {
            likeness.lookAround();
            int bits = 0;
            for (int p = 0; p < crowd.size; p++) {
                if ((gone >> p & 1) == 1 && (likeness.likes[p] & ~gone) != 0) bits |= 1 << p;
            }
            return bits;
        }
    }

    /** The latest changes in order: those made, then those taken back. */
    private static final class Changes {
        static final int MOST = 40;

        private final Crowd crowd;
        private final int[] numbers = new int[MOST];
        private final int[] whats = new int[MOST];
        private final int[] befores = new int[MOST];
        private final int[] afters = new int[MOST];
        int made;
        private int all;

        Changes(Crowd crowd) {
            this.crowd = crowd;
        }

        void make(int number, int what, int before, int after) {
            if (made >= MOST) forgetFirst();
            numbers[made] = number;
            whats[made] = what;
            befores[made] = before;
            afters[made] = after;
            made++;
            all = made;
            crowd.tell(number, what, after);
        }

        private void forgetFirst() {
            for (int k = 1; k < MOST; k++) {
                numbers[k - 1] = numbers[k];
                whats[k - 1] = whats[k];
                befores[k - 1] = befores[k];
                afters[k - 1] = afters[k];
            }
            made = MOST - 1;
        }

        int takeBack() {
            if (made <= 0) return STATE;
            made--;
            crowd.tell(numbers[made], whats[made], befores[made]);
            return made;
        }

        int makeAgain() {
            if (made >= all) return STATE;
            crowd.tell(numbers[made], whats[made], afters[made]);
            made++;
            return all - made;
        }
    }

    private static final class Twins {
        static final int MOST = 50, KINDS = 8, ACTS = 4, MOST_TRACED = 24, DEEPEST = 40;
        static final int TWIN = 0, HATTED = 1, HOME = 2, BELLED = 3, BRIDE = 4;
        static final int LOOKS = 0, WALKS = 1, WAITS = 2, TELLS = 3;
        private static final int[] ABOVE = {TWIN, TWIN, TWIN, HOME, HATTED, BELLED, TWIN, BRIDE};
        // By kind and act: the body that the kind has itself; 0: none. TWIN has those of its interfaces.
        private static final int[] BODIES = {
            1, 10, 11, 2,
            20, 0, 0, 0,
            0, 30, 0, 0,
            0, 41, 40, 0,
            0, 0, 50, 0,
            0, 0, 0, 60,
            70, 0, 0, 0,
            0, 80, 0, 81,
        };

        final int[] kindOf = new int[MOST];
        int size;
        final int[] began = new int[MOST_TRACED];
        int ran;
        private int actor;

        static boolean isKind(int kind) {
            return kind >= 0 && kind < KINDS;
        }

        static boolean isUnder(int kind, int above) {
            int at = kind;
            for (int up = 0; up < KINDS && at != above; up++) at = ABOVE[at];
            return at == above;
        }

        boolean has(int twin) {
            return twin >= 0 && twin < size;
        }

        int add(int kind) {
            if (size >= MOST) return FULL;
            kindOf[size] = kind;
            size++;
            return size - 1;
        }

        int traced() {
            return Math.min(ran, MOST_TRACED);
        }

        int begin(int twin, int what, int x) {
            ran = 0;
            if (!has(twin) || what < 0 || what >= ACTS) return 0;
            actor = twin;
            return own(what, x, 0);
        }

        private int own(int what, int x, int depth) {
            return from(kindOf[actor], what, x, depth);
        }

        /** The act by the body of a kind, or of the next one above that has one. */
        private int from(int kind, int what, int x, int depth) {
            if (depth > DEEPEST) return 0;
            int holder = kind;
            for (int up = 0; up < KINDS && BODIES[holder * ACTS + what] == 0; up++) holder = ABOVE[holder];
            int number = BODIES[holder * ACTS + what];
            if (ran < MOST_TRACED) began[ran] = number;
            ran++;
            return run(number, x, depth + 1);
        }

        private int run(int number, int x, int depth) {
            switch (number) {
                case 1: return x + actor;
                case 2:
                    int walked = own(WALKS, x, depth);
                    return walked - own(WAITS, 1, depth);
                case 10: return own(LOOKS, x, depth) * 2;
                case 11: return x ^ actor;
                case 20: return from(TWIN, LOOKS, x, depth) + 3;
                case 30: return -from(TWIN, WALKS, x, depth);
                case 40: return from(HOME, WAITS, x, depth) * 3;
                case 41: return from(HOME, WALKS, x + 1, depth);
                case 50:
                    int waited = from(HATTED, WAITS, x, depth);
                    return waited - own(LOOKS, 2, depth);
                case 60: return from(BELLED, TELLS, x, depth) ^ 5;
                case 70: return from(TWIN, LOOKS, x, depth) * 2;
                case 80:
                    int walkedAbove = from(BRIDE, WALKS, x, depth);
                    return walkedAbove + own(WAITS, 2, depth);
                case 81: return from(BRIDE, TELLS, x, depth) - 1;
                default: return 0;
            }
        }
    }

    private static final class Shelves {
        static final int MOST = 6, LONGEST_ROW = 60;
        static final int BYTES = 0, SHORTS = 1, INTS = 2, LONGS = 3, BOOLEANS = 4;
        private static final int BARE = 0, HAS_TWIN = 1, HAS_ROW = 2;

        private final int[] holds = new int[MOST];
        private final int[] twins = new int[MOST];
        private final int[] sorts = new int[MOST];
        private final int[] sizes = new int[MOST];
        private final long[] elements = new long[MOST * LONGEST_ROW];

        boolean isShelf(int shelf) {
            return shelf >= 0 && shelf < MOST;
        }

        boolean isSort(int sort) {
            return sort >= BYTES && sort <= BOOLEANS;
        }

        boolean isBare(int shelf) {
            return holds[shelf] == BARE;
        }

        boolean isRowOf(int shelf, int sort) {
            return holds[shelf] == HAS_ROW && sorts[shelf] == sort;
        }

        int sizeOf(int shelf) {
            return sizes[shelf];
        }

        int twinOn(int shelf) {
            return holds[shelf] == HAS_TWIN ? twins[shelf] : NOBODY;
        }

        int holdTwin(int shelf, int twin) {
            holds[shelf] = twin == NOBODY ? BARE : HAS_TWIN;
            twins[shelf] = twin;
            return 1;
        }

        int holdRow(int shelf, int sort, int n) {
            holds[shelf] = HAS_ROW;
            sorts[shelf] = sort;
            sizes[shelf] = n;
            for (int k = 0; k < LONGEST_ROW; k++) elements[shelf * LONGEST_ROW + k] = 0;
            return 1;
        }

        /** Why there is no such element; 0: there is one. */
        int refusal(int shelf, int i) {
            if (!isShelf(shelf)) return BAD;
            if (holds[shelf] == BARE) return NOTHING_THERE;
            if (holds[shelf] != HAS_ROW) return OTHER_KIND;
            return i >= 0 && i < sizes[shelf] ? 0 : NO_PLACE;
        }

        long read(int shelf, int i) {
            return elements[shelf * LONGEST_ROW + i];
        }

        void write(int shelf, int i, long v) {
            elements[shelf * LONGEST_ROW + i] = lowestBits(sorts[shelf], v);
        }

        private static long lowestBits(int sort, long v) {
            switch (sort) {
                case BYTES: return (byte) v;
                case SHORTS: return (short) v;
                case INTS: return (int) v;
                case BOOLEANS: return v != 0 ? 1 : 0;
                default: return v;
            }
        }

        int move(int shelf, int i, int other, int j, int n) {
            if (holds[shelf] == BARE || holds[other] == BARE) return NOTHING_THERE;
            if (holds[shelf] != HAS_ROW || !isRowOf(other, sorts[shelf])) return OTHER_KIND;
            if (n < 0 || !reaches(shelf, i, n) || !reaches(other, j, n)) return NO_PLACE;
            System.arraycopy(elements, shelf * LONGEST_ROW + i, elements, other * LONGEST_ROW + j, n);
            return n;
        }

        private boolean reaches(int shelf, int i, int n) {
            return i >= 0 && i <= sizes[shelf] - n;
        }
    }
}
