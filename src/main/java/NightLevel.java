/**
 * A caravan on three feet, kept level for the night. What each call promises stands in the document, DOC.md;
 * the public methods here refuse what is to be refused, the classes inside know the rest.
 */
public final class NightLevel {
    public static final int NONE = -1000000, BAD = -1000001, STATE = -1000002, FULL = -1000003;

    private static final int FINDING = -1000010, FAULT = -1000100;
    private static final int MISSING_ROW = 1, NO_PLACE = 2, OTHER_KIND = 3, BELOW_NONE = 4, TWO_LANES = 5;

    private static final int LEFT = 0, RIGHT = 1, NOSE = 2, FEET = 3;
    private static final int DRIVEN = 1, OVERSHOT = 2, SUNK = 3, WOUND = 4, TURNED = 5;
    private static final int MOST_DEEDS = 7, MOST_AMOUNT = 20, MOST_SOFT = 9, LAST_HOUR = 999, FAR = 60;
    private static final int BY_KIND = 0, BY_FOOT = 1, BY_AMOUNT = 2;

    private final Shelf shelf = new Shelf();
    private final Tape tape = new Tape();
    private final Site here = new Site();
    private final Site draft = new Site();
    private final Site[] images = {new Site(), new Site()};
    private final Acts acts = new Acts();
    private final Foresight foresight = new Foresight();
    private final Asker asker = new Asker();
    private int latestFault;
    private int latestFinding;

    public NightLevel() {
    }

    // ---- rows

    public int row(int row, int lane, int n) {
        if (!shelf.isRow(row) || !isWithin(lane, 0, 2) || n > Shelf.MOST_ITEMS) return BAD;
        if (n < 0) return found(BELOW_NONE);
        return unfound(shelf.make(row, lane, n));
    }

    public int set(int row, int i, int v) {
        if (!shelf.isRow(row)) return BAD;
        if (shelf.isMissing(row)) return found(MISSING_ROW);
        if (!shelf.hasPlaces(row, i, 1)) return found(NO_PLACE);
        return unfound(shelf.put(row, i, v));
    }

    public int copy(int a, int i, int b, int j, int n) {
        if (!shelf.isRow(a) || !shelf.isRow(b)) return BAD;
        if (shelf.isMissing(a) || shelf.isMissing(b)) return found(MISSING_ROW);
        if (!shelf.haveOneLane(a, b)) return found(TWO_LANES);
        if (!shelf.hasPlaces(a, i, n) || !shelf.hasPlaces(b, j, n)) return found(NO_PLACE);
        return unfound(shelf.move(a, i, b, j, n));
    }

    public int drop(int row) {
        if (!shelf.isRow(row)) return BAD;
        if (shelf.isMissing(row)) return found(MISSING_ROW);
        return unfound(shelf.remove(row));
    }

    // ---- what is told

    public int feed(int letter) {
        if (!isWithin(letter, 0, 255)) return BAD;
        if (tape.isFull()) return FULL;
        return tape.add(letter);
    }

    public int site() {
        boolean isRead = tape.readInto(draft);
        tape.clear();
        if (!isRead) {
            latestFault = tape.fault;
            return FAULT - tape.at;
        }
        here.copyFrom(draft);
        acts.forget();
        return here.deedCount;
    }

    public int fault() {
        return latestFault;
    }

    public int undo() {
        if (acts.size == 0) return STATE;
        acts.takeBack(here);
        return acts.size;
    }

    // ---- what is done

    public int hours(int n) {
        if (!here.stands) return STATE;
        if (!isWithin(n, 1, 24)) return BAD;
        if (here.hour + n > LAST_HOUR) return FULL;
        for (int passed = 0; passed < n; passed++) {
            acts.keep(here);
            here.passHour();
        }
        return here.stance.awry();
    }

    public int perform(int deed) {
        if (!here.hasDeed(deed)) return BAD;
        if (here.isDone(deed)) return STATE;
        acts.keep(here);
        here.enact(deed, here.stance);
        here.done |= 1 << deed;
        return here.stance.awry();
    }

    public int board(int foot) {
        if (!here.stands) return STATE;
        if (!isFoot(foot)) return BAD;
        if (here.stance.soft[foot] == 0) return STATE;
        acts.keep(here);
        here.stance.soften(foot, -1);
        return here.stance.soft[foot];
    }

    public int amount(int deed, int n) {
        if (!here.hasDeed(deed) || !isAmount(n)) return BAD;
        if (here.isDone(deed)) return STATE;
        acts.keep(here);
        int before = here.amountOf[deed];
        here.amountOf[deed] = n;
        return before;
    }

    public int jack(int foot, int n) {
        if (!here.stands) return STATE;
        if (!isFoot(foot) || !isAmount(n)) return BAD;
        acts.keep(here);
        here.stance.shift(foot, n);
        return here.stance.height[foot];
    }

    public int foot(int foot, int what) {
        if (!here.stands) return STATE;
        if (!isFoot(foot)) return BAD;
        switch (what) {
            case 0: return here.stance.height[foot];
            case 1: return here.stance.soft[foot];
            default: return BAD;
        }
    }

    public int deed(int deed, int what) {
        if (!here.hasDeed(deed)) return BAD;
        switch (what) {
            case 0: return here.footOf[deed];
            case 1: return here.amountOf[deed];
            case 2: return here.isDone(deed) ? 1 : 0;
            default: return BAD;
        }
    }

    public int lean(int what) {
        if (!here.stands) return STATE;
        switch (what) {
            case 0: return here.stance.side() + 1000;
            case 1: return here.stance.along() + 1000;
            case 2: return here.stance.middle();
            case 3: return here.stance.awry();
            case 4: return here.isLevel(here.stance) ? 1 : 0;
            case 5: return here.done;
            default: return BAD;
        }
    }

    // ---- foretold

    public int ahead(int foot, int n) {
        if (!here.stands) return STATE;
        if (!isFoot(foot) || !isWithin(n, 0, FAR)) return BAD;
        return foresight.behind(here, here.stance, n).height[foot];
    }

    public int leanAhead(int n, int what) {
        if (!here.stands) return STATE;
        if (!isWithin(n, 0, FAR) || !isWithin(what, 0, 1)) return BAD;
        return foresight.behind(here, here.stance, n).tilt(what) + 1000;
    }

    public int lasts() {
        if (!here.stands) return STATE;
        return foresight.untilLevelIs(here, false);
    }

    public int first() {
        if (!here.stands) return STATE;
        int hour = foresight.untilLevelIs(here, true);
        return hour > FAR ? NONE : hour;
    }

    public int attempt(int deed) {
        if (!here.hasDeed(deed)) return BAD;
        if (here.isDone(deed)) return STATE;
        return foresight.awryIf(here, deed);
    }

    public int best(int what) {
        if (!here.stands) return STATE;
        if (!isWithin(what, 0, 1)) return BAD;
        int deed = foresight.bestDeed(here);
        return deed == NONE || what == 0 ? deed : foresight.awryIf(here, deed);
    }

    public int plan(int n, int k) {
        if (!here.stands) return STATE;
        if (!isWithin(n, 0, 24) || k < -1) return BAD;
        int length = foresight.planLength(here, n);
        if (length == NONE || k == -1) return length;
        return k < length ? foresight.chosen[k] : NONE;
    }

    public int boards(int n, int j) {
        if (!here.stands) return STATE;
        if (!isWithin(n, 1, 24) || j < -1 || j >= FEET) return BAD;
        int all = foresight.fewestBoards(here, n);
        return all == NONE || j == -1 ? all : foresight.shares[j];
    }

    public int lift(int j) {
        if (!here.stands) return STATE;
        if (j < -1 || j >= FEET) return BAD;
        int all = foresight.leastLifting(here);
        return all == NONE || j == -1 ? all : foresight.shares[j];
    }

    public int worst(int n, int what) {
        if (!here.stands) return STATE;
        if (!isWithin(n, 0, FAR) || !isWithin(what, 0, 1)) return BAD;
        int hour = foresight.worstHour(here, n);
        return what == 1 ? hour : foresight.behind(here, here.stance, hour).awry();
    }

    public int who(int deed, int which, int row, int i, int n) {
        return allThatFits(BY_KIND, deed, which, row, i, n);
    }

    public int feet(int deed, int which, int row, int i, int n) {
        return allThatFits(BY_FOOT, deed, which, row, i, n);
    }

    public int amounts(int deed, int which, int row, int i, int n) {
        return allThatFits(BY_AMOUNT, deed, which, row, i, n);
    }

    public long wrong(int p, int what) {
        if (!here.stands) return STATE;
        if (!isWithin(p, 0, 10) || !isWithin(what, 0, 1)) return BAD;
        long above = foresight.casesLevel(here, p);
        long below = foresight.casesInAll(here);
        long common = greatestDivisor(below, above);
        return common < 1 ? BAD : (what == 0 ? above : below) / common;
    }

    public int drawn(int n, int seed, int what) {
        if (!here.stands) return STATE;
        if (!isWithin(n, 0, FAR) || !isWithin(seed, 1, 999999) || !isWithin(what, 0, 1)) return BAD;
        int levelHours = foresight.drawNight(here, n, seed);
        return what == 1 ? levelHours : foresight.trial.awry();
    }

    public int image(int k) {
        if (!isWithin(k, 0, 1)) return BAD;
        if (!here.stands) return STATE;
        images[k].copyFrom(here);
        return 1;
    }

    public int restore(int k) {
        if (!isWithin(k, 0, 1)) return BAD;
        if (!images[k].stands) return STATE;
        here.copyFrom(images[k]);
        acts.forget();
        return 1;
    }

    // ---- asked

    public int kind(int one) {
        return here.hasDeed(one) ? here.kindOf[one] : BAD;
    }

    public int as(int one, int kind) {
        if (!here.hasDeed(one) || !isWithin(kind, 0, TURNED)) return BAD;
        if (!asker.isOne(here.kindOf[one], kind)) return found(OTHER_KIND);
        return unfound(one);
    }

    public int ask(int one, int what) {
        if (!here.hasDeed(one) || !isWithin(what, 0, 1)) return BAD;
        return asker.answer(here, one, what);
    }

    public int trace(int i) {
        return i >= 0 && i < asker.left ? asker.bodies[i] : NONE;
    }

    public int count(int what) {
        switch (what) {
            case 0: return shelf.howMany();
            case 1: return here.deedCount;
            case 2: return here.done;
            case 3: return here.hour;
            case 4: return here.stance.awry();
            case 5: return here.stance.allHeights();
            case 6: return acts.size;
            case 7: return tape.length;
            default: return BAD;
        }
    }

    public int status() {
        return latestFinding;
    }

    // ---- what the calls share

    private static boolean isWithin(int n, int least, int most) {
        return n >= least && n <= most;
    }

    private static boolean isFoot(int n) {
        return isWithin(n, 0, FEET - 1);
    }

    private static boolean isAmount(int n) {
        return isWithin(n, 1, MOST_AMOUNT);
    }

    private int found(int finding) {
        latestFinding = finding;
        return FINDING - finding;
    }

    private int unfound(int answer) {
        latestFinding = 0;
        return answer;
    }

    private int allThatFits(int by, int deed, int which, int row, int i, int n) {
        if (!here.hasDeed(deed) || !isWithin(which, 0, 1) || !shelf.isRow(row) || !isWithin(n, 1, 12)) return BAD;
        if (shelf.isMissing(row)) return found(MISSING_ROW);
        if (!shelf.hasPlaces(row, i, n)) return found(NO_PLACE);
        if (here.isDone(deed)) return STATE;
        int least = by == BY_FOOT ? LEFT : 1;
        int most = by == BY_KIND ? TURNED : by == BY_FOOT ? NOSE : MOST_AMOUNT;
        int fitting = 0;
        for (int value = least; value <= most; value++) {
            foresight.tryWith(here, deed, by, value);
            if (foresight.isSo(here, which, shelf.items[row], i, n)) fitting |= 1 << value;
        }
        return unfound(fitting);
    }

    /** At least 1, if one of both is; numbers up to 10 to the 7th are through within 40 turns. */
    private static long greatestDivisor(long a, long b) {
        for (int turn = 0; turn < 100 && b != 0; turn++) {
            long rest = a % b;
            a = b;
            b = rest;
        }
        return a;
    }

    /** The ROWS; their items are made once, so that a ROW made anew costs no new array. */
    private static final class Shelf {
        static final int MOST_ITEMS = 40;
        private static final int ROWS = 8, MISSING = -1;

        final int[][] items = new int[ROWS][MOST_ITEMS];
        private final int[] lanes = {MISSING, MISSING, MISSING, MISSING, MISSING, MISSING, MISSING, MISSING};
        private final int[] sizes = new int[ROWS];

        boolean isRow(int row) {
            return row >= 0 && row < ROWS;
        }

        boolean isMissing(int row) {
            return lanes[row] == MISSING;
        }

        boolean haveOneLane(int a, int b) {
            return lanes[a] == lanes[b];
        }

        boolean hasPlaces(int row, int from, int n) {
            return from >= 0 && n >= 0 && from <= sizes[row] && n <= sizes[row] - from;
        }

        int howMany() {
            int there = 0;
            for (int row = 0; row < ROWS; row++) {
                if (!isMissing(row)) there++;
            }
            return there;
        }

        int make(int row, int lane, int n) {
            lanes[row] = lane;
            sizes[row] = n;
            for (int i = 0; i < n; i++) items[row][i] = 0;
            return n;
        }

        int put(int row, int i, int v) {
            items[row][i] = lanes[row] == 0 ? (byte) v : lanes[row] == 1 ? (short) v : v;
            return items[row][i];
        }

        int move(int a, int i, int b, int j, int n) {
            System.arraycopy(items[a], i, items[b], j, n);
            return n;
        }

        int remove(int row) {
            lanes[row] = MISSING;
            return sizes[row];
        }
    }

    /** THE TAPE, and how a SITE is read from it, TOKEN by TOKEN, up to the first FAULT. */
    private static final class Tape {
        private static final int MOST_BYTES = 120;
        private static final int CANNOT_STAND = 1, NUMBER_OFF = 2, TOO_MANY = 3;

        private final int[] bytes = new int[MOST_BYTES];
        int length;
        int at;
        int fault;

        boolean isFull() {
            return length >= MOST_BYTES;
        }

        int add(int letter) {
            bytes[length++] = letter;
            return length;
        }

        void clear() {
            length = 0;
        }

        boolean readInto(Site draft) {
            at = 0;
            fault = 0;
            draft.clear();
            draft.stands = readLaw(draft) && readAllFeet(draft.stance) && readDeeds(draft);
            return draft.stands;
        }

        private boolean readLaw(Site draft) {
            if (!take('n')) return false;
            draft.egg = takeNumber(0, 9, ',');
            if (fault != 0) return false;
            draft.bed = takeNumber(0, 9, ',');
            if (fault != 0) return false;
            draft.rain = takeNumber(1, 9, ';');
            return fault == 0;
        }

        private boolean readAllFeet(Stance stance) {
            for (int foot = 0; foot < FEET; foot++) {
                if (!take('w')) return false;
                stance.height[foot] = takeNumber(0, 60, ',');
                if (fault != 0) return false;
                stance.soft[foot] = takeNumber(0, MOST_SOFT, ';');
                if (fault != 0) return false;
            }
            return true;
        }

        private boolean readDeeds(Site draft) {
            // One turn more than there is room for: it ends the text, or finds what is too many.
            for (int turn = 0; turn <= MOST_DEEDS; turn++) {
                if (turn > 0 && at == length) return true;
                if (!readDeed(draft)) return false;
            }
            return false;
        }

        private boolean readDeed(Site draft) {
            int letter = at < length ? bytes[at] : 0;
            int kind = kindTold(letter);
            if (kind == 0) {
                // A foot behind a deed could stand there in no number, so that it is no fourth foot.
                return stop(letter == 'w' && draft.deedCount == 0 ? TOO_MANY : CANNOT_STAND);
            }
            if (draft.deedCount >= MOST_DEEDS) return stop(TOO_MANY);
            at++;
            int foot = takeNumber(0, FEET - 1, ',');
            if (fault != 0) return false;
            int amount = takeNumber(1, MOST_AMOUNT, ';');
            if (fault != 0) return false;
            draft.addDeed(kind, foot, amount);
            return true;
        }

        private static int kindTold(int letter) {
            switch (letter) {
                case 'd': return DRIVEN;
                case 'o': return OVERSHOT;
                case 's': return SUNK;
                case 'u': return WOUND;
                case 't': return TURNED;
                default: return 0;
            }
        }

        private boolean take(char sign) {
            if (at >= length || bytes[at] != sign) return stop(CANNOT_STAND);
            at++;
            return true;
        }

        private int takeNumber(int least, int most, char behind) {
            int figures = 0;
            int value = 0;
            for (int i = at; i < length && bytes[i] >= '0' && bytes[i] <= '9'; i++) {
                figures++;
                // Of a longer run the value is not asked, and could become too great.
                if (figures <= 2) value = value * 10 + bytes[i] - '0';
            }
            if (figures < 1 || figures > 2) {
                stop(CANNOT_STAND);
            } else if (value < least || value > most) {
                stop(NUMBER_OFF);
            } else {
                at += figures;
                take(behind);
            }
            return value;
        }

        private boolean stop(int number) {
            fault = number;
            return false;
        }
    }

    /** How the three FEET stand: each HEIGHT, each SOFT. */
    private static final class Stance {
        private static final int MOST_HEIGHT = 99;

        final int[] height = new int[FEET];
        final int[] soft = new int[FEET];

        void copyFrom(Stance other) {
            System.arraycopy(other.height, 0, height, 0, FEET);
            System.arraycopy(other.soft, 0, soft, 0, FEET);
        }

        int side() {
            return height[LEFT] - height[RIGHT];
        }

        int middle() {
            return (height[LEFT] + height[RIGHT]) / 2;
        }

        int along() {
            return height[NOSE] - middle();
        }

        int tilt(int which) {
            return which == 0 ? side() : along();
        }

        int awry() {
            return Math.abs(side()) + Math.abs(along());
        }

        int allHeights() {
            return height[LEFT] + height[RIGHT] + height[NOSE];
        }

        void shift(int foot, int by) {
            height[foot] = Math.max(0, Math.min(MOST_HEIGHT, height[foot] + by));
        }

        void soften(int foot, int by) {
            soft[foot] = Math.max(0, Math.min(MOST_SOFT, soft[foot] + by));
        }

        /** Sinking several times at once is the same as one by one: below 0 nothing sinks further. */
        void sink(int times) {
            for (int foot = 0; foot < FEET; foot++) shift(foot, -soft[foot] * times);
        }

        void enact(int kind, int foot, int amount) {
            switch (kind) {
                case DRIVEN:
                    shift(foot, amount);
                    break;
                case OVERSHOT:
                    shift(foot, amount / 2 + 1);
                    break;
                case SUNK:
                    shift(foot, amount);
                    soften(foot, 1);
                    break;
                case WOUND:
                    wind(amount);
                    break;
                case TURNED:
                    changeWheels();
                    wind(amount / 2);
                    break;
                default:
                    break;
            }
        }

        private void wind(int by) {
            shift(NOSE, along() < 0 ? by : -by);
        }

        private void changeWheels() {
            int leftHeight = height[LEFT];
            int leftSoft = soft[LEFT];
            height[LEFT] = height[RIGHT];
            soft[LEFT] = soft[RIGHT];
            height[RIGHT] = leftHeight;
            soft[RIGHT] = leftSoft;
        }
    }

    /** A SITE as it is told, and as far as the night has come. */
    private static final class Site {
        /** How many numbers ACTS can change: three HEIGHTS, three SOFTS, the AMOUNTS, HOUR, what is DONE. */
        static final int CHANGING = 2 * FEET + MOST_DEEDS + 2;

        boolean stands;
        int egg;
        int bed;
        int rain = 1;
        int hour;
        int deedCount;
        int done;
        final int[] kindOf = new int[MOST_DEEDS];
        final int[] footOf = new int[MOST_DEEDS];
        final int[] amountOf = new int[MOST_DEEDS];
        final Stance stance = new Stance();

        void clear() {
            stands = false;
            hour = 0;
            deedCount = 0;
            done = 0;
        }

        void copyFrom(Site other) {
            stands = other.stands;
            egg = other.egg;
            bed = other.bed;
            rain = other.rain;
            hour = other.hour;
            deedCount = other.deedCount;
            done = other.done;
            System.arraycopy(other.kindOf, 0, kindOf, 0, MOST_DEEDS);
            System.arraycopy(other.footOf, 0, footOf, 0, MOST_DEEDS);
            System.arraycopy(other.amountOf, 0, amountOf, 0, MOST_DEEDS);
            stance.copyFrom(other.stance);
        }

        void addDeed(int kind, int foot, int amount) {
            kindOf[deedCount] = kind;
            footOf[deedCount] = foot;
            amountOf[deedCount] = amount;
            deedCount++;
        }

        boolean hasDeed(int deed) {
            return deed >= 0 && deed < deedCount;
        }

        boolean isDone(int deed) {
            return (done >> deed & 1) == 1;
        }

        int leftCount() {
            return deedCount - Integer.bitCount(done);
        }

        boolean isLevel(Stance of) {
            return Math.abs(of.side()) <= egg && Math.abs(of.along()) <= bed;
        }

        void enact(int deed, Stance upon) {
            upon.enact(kindOf[deed], footOf[deed], amountOf[deed]);
        }

        /** How often it rains in n HOURS from now on: the multiples of RAIN among them. */
        int rainsWithin(int n) {
            if (rain < 1) return 0;
            return (hour + n + rain - 1) / rain - (hour + rain - 1) / rain;
        }

        void passHour() {
            stance.sink(rainsWithin(1));
            hour++;
        }

        void save(int[] into, int at) {
            System.arraycopy(stance.height, 0, into, at, FEET);
            System.arraycopy(stance.soft, 0, into, at + FEET, FEET);
            System.arraycopy(amountOf, 0, into, at + 2 * FEET, MOST_DEEDS);
            into[at + CHANGING - 2] = hour;
            into[at + CHANGING - 1] = done;
        }

        void load(int[] from, int at) {
            System.arraycopy(from, at, stance.height, 0, FEET);
            System.arraycopy(from, at + FEET, stance.soft, 0, FEET);
            System.arraycopy(from, at + 2 * FEET, amountOf, 0, MOST_DEEDS);
            hour = from[at + CHANGING - 2];
            done = from[at + CHANGING - 1];
        }
    }

    /** What the SITE was ahead of each of the latest ACTS, in a ring: the oldest gives room to a new one. */
    private static final class Acts {
        private static final int MOST_KEPT = 24;

        private final int[] kept = new int[MOST_KEPT * Site.CHANGING];
        private int next;
        int size;

        void forget() {
            size = 0;
        }

        void keep(Site site) {
            site.save(kept, next * Site.CHANGING);
            next = (next + 1) % MOST_KEPT;
            size = Math.min(MOST_KEPT, size + 1);
        }

        void takeBack(Site site) {
            next = (next + MOST_KEPT - 1) % MOST_KEPT;
            site.load(kept, next * Site.CHANGING);
            size--;
        }
    }

    /** What is FORETOLD: all is tried on stances of its own, so that the SITE stays as it is. */
    private static final class Foresight {
        private static final int MOST_BOARDS = 3;

        final Stance trial = new Stance();
        final int[] chosen = new int[MOST_DEEDS];
        final int[] shares = new int[FEET];
        private final Stance later = new Stance();
        private final Stance[] steps = {new Stance(), new Stance(), new Stance(), new Stance(),
            new Stance(), new Stance(), new Stance(), new Stance()};

        Stance behind(Site site, Stance from, int n) {
            return sunkBy(from, site.rainsWithin(n));
        }

        private Stance sunkBy(Stance from, int rains) {
            later.copyFrom(from);
            later.sink(rains);
            return later;
        }

        int untilLevelIs(Site site, boolean wanted) {
            int n = 0;
            while (n <= FAR && site.isLevel(behind(site, site.stance, n)) != wanted) n++;
            return n;
        }

        int worstHour(Site site, int n) {
            int worst = -1;
            int worstAt = 0;
            for (int t = 0; t <= n; t++) {
                int awry = behind(site, site.stance, t).awry();
                if (awry > worst) {
                    worst = awry;
                    worstAt = t;
                }
            }
            return worstAt;
        }

        int awryIf(Site site, int deed) {
            trial.copyFrom(site.stance);
            site.enact(deed, trial);
            return trial.awry();
        }

        int bestDeed(Site site) {
            int bestOne = NONE;
            int least = 0;
            for (int deed = 0; deed < site.deedCount; deed++) {
                if (site.isDone(deed)) continue;
                int awry = awryIf(site, deed);
                if (bestOne == NONE || awry < least) {
                    least = awry;
                    bestOne = deed;
                }
            }
            return bestOne;
        }

        /** Leaves the row itself in chosen. */
        int planLength(Site site, int n) {
            int left = site.leftCount();
            int rains = site.rainsWithin(n);
            steps[0].copyFrom(site.stance);
            for (int length = 0; length <= left; length++) {
                if (findRow(site, 0, length, site.done, rains)) return length;
            }
            return NONE;
        }

        private boolean findRow(Site site, int depth, int length, int used, int rains) {
            if (depth == length) return site.isLevel(sunkBy(steps[depth], rains));
            if (depth + 1 >= steps.length || depth >= chosen.length) return false;
            for (int deed = 0; deed < site.deedCount; deed++) {
                if ((used >> deed & 1) == 1 || isOutOfTurn(site, depth, deed)) continue;
                chosen[depth] = deed;
                steps[depth + 1].copyFrom(steps[depth]);
                site.enact(deed, steps[depth + 1]);
                if (findRow(site, depth + 1, length, used | 1 << deed, rains)) return true;
            }
            return false;
        }

        /**
         * Two that only lift, one straight behind the other, come to the same in either order: the row with
         * the lesser one first has been tried already, so that most rows need not be looked at.
         */
        private boolean isOutOfTurn(Site site, int depth, int deed) {
            if (depth == 0 || chosen[depth - 1] < deed) return false;
            return site.kindOf[chosen[depth - 1]] <= SUNK && site.kindOf[deed] <= SUNK;
        }

        /** Leaves how many each FOOT gets in shares. */
        int fewestBoards(Site site, int n) {
            int rains = site.rainsWithin(n);
            int fewest = NONE;
            for (int way = 0; way < 64; way++) {
                int a = way >> 4 & MOST_BOARDS;
                int b = way >> 2 & MOST_BOARDS;
                int c = way & MOST_BOARDS;
                int[] soft = site.stance.soft;
                if (a > soft[LEFT] || b > soft[RIGHT] || c > soft[NOSE]) continue;
                if (fewest != NONE && a + b + c >= fewest) continue;
                trial.copyFrom(site.stance);
                trial.soften(LEFT, -a);
                trial.soften(RIGHT, -b);
                trial.soften(NOSE, -c);
                if (site.isLevel(sunkBy(trial, rains))) fewest = share(a, b, c);
            }
            return fewest;
        }

        /** Leaves how much each FOOT is lifted in shares. */
        int leastLifting(Site site) {
            int least = NONE;
            for (int a = 0; a <= MOST_AMOUNT; a++) {
                for (int b = 0; b <= MOST_AMOUNT; b++) {
                    trial.copyFrom(site.stance);
                    trial.shift(LEFT, a);
                    trial.shift(RIGHT, b);
                    if (Math.abs(trial.side()) > site.egg) continue;
                    int c = leastNoseLift(site);
                    if (c != NONE && (least == NONE || a + b + c < least)) least = share(a, b, c);
                }
            }
            return least;
        }

        private int leastNoseLift(Site site) {
            for (int c = 0; c <= MOST_AMOUNT; c++) {
                later.copyFrom(trial);
                later.shift(NOSE, c);
                if (site.isLevel(later)) return c;
            }
            return NONE;
        }

        private int share(int a, int b, int c) {
            shares[LEFT] = a;
            shares[RIGHT] = b;
            shares[NOSE] = c;
            return a + b + c;
        }

        /** Leaves in trial how it stands if the DEED had another KIND, FOOT or AMOUNT and were DONE now. */
        void tryWith(Site site, int deed, int by, int value) {
            trial.copyFrom(site.stance);
            trial.enact(by == BY_KIND ? value : site.kindOf[deed],
                by == BY_FOOT ? value : site.footOf[deed],
                by == BY_AMOUNT ? value : site.amountOf[deed]);
        }

        boolean isSo(Site site, int which, int[] told, int from, int n) {
            for (int t = 0; t < n; t++) {
                if (behind(site, trial, t + 1).tilt(which) != told[from + t]) return false;
            }
            return true;
        }

        /** Ten for each DEED that is not DONE, multiplied: so all likelihoods are whole numbers of cases. */
        long casesInAll(Site site) {
            long cases = 1;
            for (int left = site.leftCount(); left > 0; left--) cases *= 10;
            return cases;
        }

        long casesLevel(Site site, int p) {
            long cases = 0;
            for (int set = 0; set < 1 << site.deedCount; set++) {
                if ((set & site.done) != 0) continue;
                trial.copyFrom(site.stance);
                long weight = 1;
                for (int deed = 0; deed < site.deedCount; deed++) {
                    if (site.isDone(deed)) continue;
                    boolean isChosen = (set >> deed & 1) == 1;
                    if (isChosen) site.enact(deed, trial);
                    weight *= isChosen ? 10 - p : p;
                }
                if (site.isLevel(trial)) cases += weight;
            }
            return cases;
        }

        /** Leaves in trial how it stands then. */
        int drawNight(Site site, int n, int seed) {
            if (site.deedCount < 1) return 0;
            trial.copyFrom(site.stance);
            int done = site.done;
            int levelHours = 0;
            long x = seed;
            for (int t = 0; t < n; t++) {
                x = x * 16807 % 2147483647;
                int deed = (int) (x % site.deedCount);
                if ((done >> deed & 1) == 0) site.enact(deed, trial);
                done |= 1 << deed;
                trial.sink(site.rainsWithin(t + 1) - site.rainsWithin(t));
                if (site.isLevel(trial)) levelHours++;
            }
            return levelHours;
        }
    }

    /** KINDS, which of them is which, and the ASKS by their BODIES, which leave THE TRACE. */
    private static final class Asker {
        private static final int MOST_LEFT = 16, DEEPEST = 8;
        private static final int SIZE = 0, MARK = 1;
        private static final int[] NEAREST = {0, 0, 1, 1, 0, 4};
        /** The BODY told for each KIND, 0 where none is; that of KIND 0 is lent to all. */
        private static final int[] SIZE_BODIES = {10, 11, 12, 0, 13, 14};
        private static final int[] MARK_BODIES = {20, 21, 24, 22, 23, 0};

        final int[] bodies = new int[MOST_LEFT];
        int left;

        boolean isOne(int kind, int wanted) {
            return kind == wanted || NEAREST[kind] == wanted || NEAREST[NEAREST[kind]] == wanted;
        }

        int answer(Site site, int one, int what) {
            left = 0;
            return begin(site, one, bodyFor(site.kindOf[one], what), 0);
        }

        private static int bodyFor(int kind, int what) {
            int[] told = what == SIZE ? SIZE_BODIES : MARK_BODIES;
            return told[kind] != 0 ? told[kind] : told[NEAREST[kind]];
        }

        private int begin(Site site, int one, int body, int depth) {
            if (depth > DEEPEST) return 0;
            if (left < MOST_LEFT) bodies[left++] = body;
            int deeper = depth + 1;
            switch (body) {
                case 10: return site.amountOf[one];
                case 11: return begin(site, one, 10, deeper) + anew(site, one, MARK, deeper);
                case 12: return -begin(site, one, 11, deeper);
                case 13: return begin(site, one, 10, deeper) - 100;
                case 14: return 2 * begin(site, one, 13, deeper);
                case 20: return one;
                case 21: return begin(site, one, 20, deeper) + site.stance.height[site.footOf[one]];
                case 22: return begin(site, one, 21, deeper) - 1000;
                case 23: return begin(site, one, 20, deeper) - anew(site, one, SIZE, deeper);
                case 24: return 2 * begin(site, one, 21, deeper);
                default: return 0;
            }
        }

        private int anew(Site site, int one, int what, int depth) {
            return begin(site, one, bodyFor(site.kindOf[one], what), depth);
        }
    }
}
