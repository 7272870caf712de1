/** A town whose books can be read but once, and what its people still know of them. */
public final class EachBookOnce {
    public static final int NONE = -1;

    private static final int BAD = -2;
    private static final int OTHER = -3;
    private static final int NOTHING = -4;
    private static final int STUCK = -5;
    private static final int FULL = -6;
    private static final int FINE = 0;
    // Where a true answer may be below 0 itself, a refusal stands this much lower.
    private static final int FAR_BELOW = 1000000;

    private static final int MOST = 8;
    private static final int WHOLE = 1000;
    private static final int MOST_WORTH = 99;
    private static final int OLDEST = 9;
    private static final int MOST_SKILL = 10;
    private static final int MOST_YEARS = 60;
    private static final int MOST_TRUE_YEARS = 20;
    private static final int MOST_TELLINGS = 99;
    private static final int MOST_TOLD = 20;
    private static final int MOST_ORDERED = 5;

    private static final int RULE = 0;
    private static final int NOW = 1;
    private static final int FEW = 2;
    private static final int LOUD = 3;
    private static final int CHAIN = 4;
    private static final int TWICE = 5;
    private static final int SAGE = 6;

    private final Town town = new Town();
    private final Town kept = new Town();
    private final Plans plans = new Plans();
    private final Shelves shelves = new Shelves();
    private final Tape tape = new Tape();
    private final int[] refusals = new int[5];
    private boolean isKept;
    private int yearsEnded;
    private int trueValues;

    public EachBookOnce() {
    }

    // ---- shelves

    public int row(int s, int sort, int n) {
        if (!isShelf(s) || !within(sort, 0, Shelves.BOOLEANS) || !within(n, 0, Shelves.LONGEST)) {
            return refuse(BAD);
        }
        shelves.putRow(s, sort, n);
        return 1;
    }

    public int set(int s, int i, long v) {
        int fit = rowFit(s);
        if (fit == FINE && !within(i, 0, shelves.size[s] - 1)) {
            fit = BAD;
        }
        if (fit != FINE) {
            return refuse(fit);
        }
        shelves.put(s, i, v);
        return 1;
    }

    public int copy(int p, int q, int i, int j, int n) {
        int fit = copyFit(p, q);
        if (fit == FINE && !(hasSpan(p, i, n) && hasSpan(q, j, n))) {
            fit = BAD;
        }
        if (fit != FINE) {
            return refuse(fit);
        }
        shelves.move(p, q, i, j, n);
        return n;
    }

    public long element(int s, int i) {
        if (rowFit(s) != FINE || !within(i, 0, shelves.size[s] - 1)) {
            return 0;
        }
        return shelves.at(s, i);
    }

    public int holds(int s) {
        return isShelf(s) ? shelves.holding[s] : NONE;
    }

    public int rule(int s, int kind, int a) {
        if (!isShelf(s) || !within(kind, NOW, SAGE) || !within(a, 0, 99)) {
            return refuse(BAD);
        }
        shelves.putRule(s, kind, a);
        return 1;
    }

    public int says(int s, int kind) {
        int fit = within(kind, RULE, SAGE) ? ruleFit(s) : BAD;
        if (fit == FINE && !Rules.isUnder(shelves.kindIn(s), kind)) {
            fit = OTHER;
        }
        if (fit != FINE) {
            return refuse(fit);
        }
        if (kind == RULE) {
            return shelves.amount[s];
        }
        Town trial = plans.trialOf(town);
        int count = Rules.act(trial, shelves.kindIn(s), shelves.amount[s]);
        return kind <= LOUD ? count : trial.worthNow();
    }

    // ---- the town's books and people

    public int book(int worth, int needs) {
        if (!within(worth, 1, MOST_WORTH) || !isSetOf(needs, town.books)) {
            return refuse(BAD);
        }
        if (town.books >= MOST) {
            return refuse(FULL);
        }
        return town.addBook(worth, needs);
    }

    public int one(int age, int reads, int keeps, int tells) {
        if (!canBeOne(age, reads, keeps, tells)) {
            return refuse(BAD);
        }
        if (town.people >= MOST) {
            return refuse(FULL);
        }
        return town.addOne(age, reads, keeps, tells);
    }

    public int ones(int s, int n) {
        int fit = rowFit(s);
        if (fit == FINE && (!within(n, 0, shelves.size[s]) || n % 4 != 0)) {
            fit = BAD;
        }
        if (fit != FINE) {
            return refuse(fit);
        }
        int came = 0;
        for (int i = 0; i < n && town.people < MOST; i += 4) {
            long age = shelves.at(s, i);
            long reads = shelves.at(s, i + 1);
            long keeps = shelves.at(s, i + 2);
            long tells = shelves.at(s, i + 3);
            if (!canBeOne(age, reads, keeps, tells)) {
                break;
            }
            town.addOne((int) age, (int) reads, (int) keeps, (int) tells);
            came++;
        }
        return came;
    }

    public int feed(int v, int n) {
        if (!within(n, 1, 4)) {
            return refuse(BAD);
        }
        if (tape.size > Tape.LONGEST - n) {
            return refuse(FULL);
        }
        for (int shift = 8 * (n - 1); shift >= 0; shift -= 8) {
            tape.append((byte) (v >> shift));
        }
        return tape.size;
    }

    public int wipe() {
        int size = tape.size;
        tape.size = 0;
        return size;
    }

    public int town() {
        int count = tape.readFrom(town);
        tape.size = 0;
        if (tape.fault != NONE) {
            refuse(BAD);
            return -20 - tape.fault;
        }
        town.become(tape.draft);
        return count;
    }

    public int bookOf(int book, int what) {
        if (!town.isBook(book)) {
            return refuse(BAD);
        }
        switch (what) {
            case 0:
                return town.worth[book];
            case 1:
                return town.needed[book];
            case 2:
                return town.good[book];
            case 3:
                return has(town.white, book) ? 1 : 0;
            case 4:
                // Unlike VALUE the document does not keep this to those who are there.
                return town.mostKnown(book, setOfAll(town.people));
            default:
                return refuse(BAD);
        }
    }

    public int oneOf(int one, int what) {
        if (!town.isOne(one)) {
            return refuse(BAD);
        }
        switch (what) {
            case 0:
                return town.age[one];
            case 1:
                return town.reading[one];
            case 2:
                return town.memory[one];
            case 3:
                return town.telling[one];
            case 4:
                return has(town.gone, one) ? 1 : 0;
            default:
                return refuse(BAD);
        }
    }

    public int known(int one, int book) {
        return isPair(one, book) ? town.knows(one, book) : refuse(BAD);
    }

    public int alter(int one, int book, int v) {
        if (!isPair(one, book) || !within(v, 0, WHOLE)) {
            return refuse(BAD);
        }
        if (has(town.gone, one)) {
            return refuse(STUCK);
        }
        int before = town.knows(one, book);
        town.learn(one, book, v);
        return before;
    }

    // ---- what is done

    public int ground(int one, int book) {
        return isPair(one, book) ? town.groundOf(one, book) : refuse(BAD);
    }

    public int would(int one, int book) {
        int fit = readFit(one, book);
        return fit == FINE ? town.wouldKnow(one, book) : refuse(fit);
    }

    public int read(int one, int book) {
        int fit = readFit(one, book);
        if (fit != FINE) {
            return refuse(fit);
        }
        town.readBy(one, book);
        return town.knows(one, book);
    }

    public int aloud(int one, int book, int others) {
        int fit = isSetOf(others, town.people) ? readFit(one, book) : BAD;
        if (fit != FINE) {
            return refuse(fit);
        }
        town.readBy(one, book);
        return town.hearFrom(one, book, others);
    }

    public int tell(int one, int other, int book) {
        if (!isPair(one, book) || !town.isOne(other) || one == other) {
            return refuse(BAD);
        }
        if (has(town.gone, one) || has(town.gone, other)) {
            return refuse(STUCK);
        }
        int more = town.gainByTelling(one, other, book);
        town.tellTo(one, other, book);
        return more;
    }

    public int write(int one, int book) {
        if (!isPair(one, book)) {
            return refuse(BAD);
        }
        if (!has(town.white, book) || has(town.gone, one) || town.knows(one, book) < 1) {
            return refuse(STUCK);
        }
        return town.writeBy(one, book);
    }

    public int value() {
        return town.worthNow();
    }

    public int reader(int book) {
        if (!town.isBook(book)) {
            return refuse(BAD);
        }
        return has(town.white, book) ? refuse(STUCK) : town.bestReader(book);
    }

    // ---- what is best

    public int run(int s, int n, int what) {
        int fit = within(n, 1, MOST_YEARS) && within(what, 0, 3) ? ruleFit(s) : BAD;
        if (fit != FINE) {
            return refuse(fit);
        }
        int sum = plans.sumOfRun(plans.trialOf(town), shelves.kindIn(s), shelves.amount[s], n);
        switch (what) {
            case 0:
                return sum;
            case 1:
                return plans.lastValue;
            case 2:
                return Integer.bitCount(plans.trial.white);
            default:
                return Integer.bitCount(plans.trial.setThere());
        }
    }

    public int head(int n) {
        if (!within(n, 1, MOST_YEARS)) {
            return refuse(BAD);
        }
        int best = NONE;
        int bestSum = 0;
        for (int s = 0; s < MOST; s++) {
            if (ruleFit(s) == FINE) {
                int sum = plans.sumOfRun(plans.trialOf(town), shelves.kindIn(s), shelves.amount[s], n);
                if (best == NONE || sum > bestSum) {
                    best = s;
                    bestSum = sum;
                }
            }
        }
        return best == NONE ? refuse(STUCK) : best;
    }

    public int who(int book, int n) {
        if (!town.isBook(book) || !within(n, 1, MOST_YEARS)) {
            return refuse(BAD);
        }
        if (has(town.white, book) || town.setThere() == 0) {
            return refuse(STUCK);
        }
        return plans.bestWho(town, book, n);
    }

    public int order(int one, int what) {
        int unread = town.books - Integer.bitCount(town.white);
        if (!town.isOne(one) || !within(what, NONE, unread - 1)) {
            return refuse(BAD);
        }
        if (has(town.gone, one) || unread > MOST_ORDERED) {
            return refuse(STUCK);
        }
        return what == NONE ? plans.worthByRising(town, one) : town.unreadAt(what);
    }

    public int keeping(int book, int n) {
        if (!town.isBook(book) || !within(n, 2, MOST_YEARS)) {
            return refuse(BAD) - FAR_BELOW;
        }
        boolean isFound = !has(town.white, book) && plans.findKeeping(town, book, n);
        return isFound ? plans.bestSum : refuse(STUCK) - FAR_BELOW;
    }

    public int left(int x, int tells, int n) {
        if (!canBeTold(x, tells) || !within(n, 0, MOST_TELLINGS)) {
            return refuse(BAD);
        }
        int rest = x;
        for (int i = 0; i < n; i++) {
            rest = Town.afterTelling(rest, tells);
        }
        return rest;
    }

    public int longest(int x, int tells, int v) {
        if (!canBeTold(x, tells) || !within(v, 1, WHOLE)) {
            return refuse(BAD);
        }
        int count = NONE;
        int rest = x;
        while (rest >= v && count < MOST_TELLINGS) {
            count++;
            rest = Town.afterTelling(rest, tells);
        }
        return count;
    }

    public int hangs() {
        int there = town.setThere();
        int most = NONE;
        int least = 0;
        for (int p = 0; p < town.people; p++) {
            if (has(there, p)) {
                int without = town.worthAmong(there & ~(1 << p));
                if (most == NONE || without < least) {
                    most = p;
                    least = without;
                }
            }
        }
        return most == NONE ? refuse(STUCK) : most;
    }

    public int lost(int v) {
        return within(v, 1, WHOLE) ? setOfAll(town.books) & ~town.booksKnown(town.setThere(), v) : refuse(BAD);
    }

    public int bear(int v) {
        if (!within(v, 1, WHOLE)) {
            return refuse(BAD);
        }
        int there = town.setThere();
        int wanted = town.booksKnown(there, v);
        int best = there;
        for (int some = 0; some < there; some++) {
            boolean isFewer = Integer.bitCount(some) < Integer.bitCount(best);
            if ((some & ~there) == 0 && isFewer && town.booksKnown(some, v) == wanted) {
                best = some;
            }
        }
        return best;
    }

    public int youngest(int one) {
        return town.isOne(one) ? town.youngestBut(one) : refuse(BAD);
    }

    public int teach(int one, int book) {
        if (!isPair(one, book)) {
            return refuse(BAD);
        }
        if (has(town.gone, one)) {
            return refuse(STUCK);
        }
        int best = NONE;
        int most = 0;
        for (int p = 0; p < town.people; p++) {
            int more = p == one || has(town.gone, p) ? 0 : town.gainByTelling(one, p, book);
            if (more > most) {
                best = p;
                most = more;
            }
        }
        return best;
    }

    public int needs(int book, boolean other) {
        if (!town.isBook(book)) {
            return refuse(BAD);
        }
        return other ? town.allThatNeed(book) : town.allNeededBy(book);
    }

    public int next() {
        int best = NONE;
        int most = 0;
        for (int b = 0; b < town.books; b++) {
            int more = has(town.white, b) ? 0 : town.gainByReading(b);
            if (more > most) {
                best = b;
                most = more;
            }
        }
        return best;
    }

    public int two(int one, int other) {
        if (!town.isOne(one) || !town.isOne(other)) {
            return refuse(BAD);
        }
        return town.worthAmong(town.setThere() & (1 << one | 1 << other));
    }

    public int gains(int s, int n) {
        int fit = within(n, 1, MOST_YEARS) ? ruleFit(s) : BAD;
        if (fit != FINE) {
            return refuse(fit) - FAR_BELOW;
        }
        int sum = plans.sumOfRun(plans.trialOf(town), shelves.kindIn(s), shelves.amount[s], n);
        return sum - Plans.sumOfRest(plans.trialOf(town), n);
    }

    public int judge(int s, int n) {
        int fit = toldFit(s, n);
        return fit == FINE ? firstWrong(s, n) : refuse(fit);
    }

    public int told(int s, int n) {
        int fit = toldFit(s, n);
        if (fit == FINE && firstWrong(s, n) != NONE) {
            fit = STUCK;
        }
        return fit == FINE ? plans.trial.worthNow() : refuse(fit);
    }

    // ---- years in truth

    public int years(int s, int n) {
        int fit = within(n, 1, MOST_TRUE_YEARS) ? ruleFit(s) : BAD;
        if (fit != FINE) {
            return refuse(fit);
        }
        int sum = 0;
        for (int i = 0; i < n; i++) {
            Rules.act(town, shelves.kindIn(s), shelves.amount[s]);
            sum += town.worthNow();
            town.drawDeaths();
            town.endYear();
            yearsEnded++;
        }
        trueValues += sum;
        return sum;
    }

    public int ends() {
        yearsEnded++;
        return town.endYear();
    }

    public int seed(int v) {
        int before = town.luck;
        town.luck = v;
        return before;
    }

    public int image() {
        kept.become(town);
        isKept = true;
        return 1;
    }

    public int back() {
        if (!isKept) {
            return refuse(STUCK);
        }
        town.become(kept);
        return 1;
    }

    public int status(int what) {
        if (within(what, 12, 16)) {
            return refusals[what - 12];
        }
        switch (what) {
            case 0:
                return town.books;
            case 1:
                return Integer.bitCount(town.white);
            case 2:
                return town.people;
            case 3:
                return Integer.bitCount(town.gone);
            case 4:
                return yearsEnded;
            case 5:
                return trueValues;
            case 6:
                return tape.size;
            case 7:
                return town.luck;
            case 8:
                return shelves.countHolding();
            default:
                return NONE;
        }
    }

    // ---- what may be, and what is refused

    private int refuse(int code) {
        int place = BAD - code;
        if (within(place, 0, refusals.length - 1)) {
            refusals[place]++;
        }
        return code;
    }

    private static boolean within(long v, long least, long most) {
        return v >= least && v <= most;
    }

    private static boolean isShelf(int s) {
        return within(s, 0, MOST - 1);
    }

    private static boolean has(int bits, int i) {
        return (bits >> i & 1) != 0;
    }

    private static int setOfAll(int count) {
        return (1 << count) - 1;
    }

    private static boolean isSetOf(int bits, int count) {
        return (bits & ~setOfAll(count)) == 0;
    }

    private static boolean canBeOne(long age, long reads, long keeps, long tells) {
        return within(age, 0, OLDEST) && within(reads, 0, MOST_SKILL)
                && within(keeps, 0, MOST_SKILL) && within(tells, 0, MOST_SKILL);
    }

    private static boolean canBeTold(int x, int tells) {
        return within(x, 0, WHOLE) && within(tells, 0, MOST_SKILL);
    }

    private boolean isPair(int one, int book) {
        return town.isOne(one) && town.isBook(book);
    }

    private int readFit(int one, int book) {
        if (!isPair(one, book)) {
            return BAD;
        }
        return has(town.white, book) || has(town.gone, one) ? STUCK : FINE;
    }

    private int rowFit(int s) {
        if (!isShelf(s)) {
            return BAD;
        }
        if (shelves.hasRule(s)) {
            return OTHER;
        }
        return shelves.hasRow(s) ? FINE : NOTHING;
    }

    private int ruleFit(int s) {
        if (!isShelf(s)) {
            return BAD;
        }
        if (shelves.hasRow(s)) {
            return OTHER;
        }
        return shelves.hasRule(s) ? FINE : NOTHING;
    }

    private int copyFit(int p, int q) {
        if (!isShelf(p) || !isShelf(q)) {
            return BAD;
        }
        if (shelves.hasRule(p) || shelves.hasRule(q)) {
            return OTHER;
        }
        if (!shelves.hasRow(p) || !shelves.hasRow(q)) {
            return NOTHING;
        }
        return shelves.holding[p] == shelves.holding[q] ? FINE : OTHER;
    }

    private boolean hasSpan(int s, int i, int n) {
        return i >= 0 && n >= 0 && (long) i + n <= shelves.size[s];
    }

    private int toldFit(int s, int n) {
        int fit = within(n, 0, MOST_TOLD) ? rowFit(s) : BAD;
        return fit == FINE && n > shelves.size[s] ? BAD : fit;
    }

    /** Leaves in the trial town what is known behind the told readings up to there. */
    private int firstWrong(int s, int n) {
        Town trial = plans.trialOf(town);
        for (int i = 0; i < n; i++) {
            long told = shelves.at(s, i);
            if (!within(told, 0, 100 * MOST - 1)) {
                return i;
            }
            int one = (int) told / 100;
            int book = (int) told % 100;
            if (!has(trial.setThere(), one) || !trial.isBook(book) || has(trial.white, book)) {
                return i;
            }
            trial.readBy(one, book);
        }
        return NONE;
    }

    /** All that image() keeps: the books, the people, what they know, and the seed. */
    private static final class Town {
        private int books;
        private int people;
        private int white;
        private int gone;
        private int luck = 1;
        private final int[] worth = new int[MOST];
        private final int[] needed = new int[MOST];
        private final int[] good = new int[MOST];
        private final int[] age = new int[MOST];
        private final int[] reading = new int[MOST];
        private final int[] memory = new int[MOST];
        private final int[] telling = new int[MOST];
        private final int[] share = new int[MOST * MOST];

        void become(Town from) {
            books = from.books;
            people = from.people;
            white = from.white;
            gone = from.gone;
            luck = from.luck;
            System.arraycopy(from.worth, 0, worth, 0, MOST);
            System.arraycopy(from.needed, 0, needed, 0, MOST);
            System.arraycopy(from.good, 0, good, 0, MOST);
            System.arraycopy(from.age, 0, age, 0, MOST);
            System.arraycopy(from.reading, 0, reading, 0, MOST);
            System.arraycopy(from.memory, 0, memory, 0, MOST);
            System.arraycopy(from.telling, 0, telling, 0, MOST);
            System.arraycopy(from.share, 0, share, 0, MOST * MOST);
        }

        boolean isBook(int b) {
            return b >= 0 && b < books;
        }

        boolean isOne(int p) {
            return p >= 0 && p < people;
        }

        int setThere() {
            return setOfAll(people) & ~gone;
        }

        /** Only called while there is room. */
        int addBook(int itsWorth, int itsNeeds) {
            int b = books;
            worth[b] = itsWorth;
            needed[b] = itsNeeds;
            good[b] = WHOLE;
            books++;
            return b;
        }

        /** Only called while there is room. */
        int addOne(int itsAge, int reads, int keeps, int tells) {
            int p = people;
            age[p] = itsAge;
            reading[p] = reads;
            memory[p] = keeps;
            telling[p] = tells;
            people++;
            return p;
        }

        int knows(int p, int b) {
            return share[p * MOST + b];
        }

        void learn(int p, int b, int v) {
            share[p * MOST + b] = v;
        }

        int mostKnown(int b, int some) {
            int most = 0;
            for (int p = 0; p < people; p++) {
                if (has(some, p)) {
                    most = Math.max(most, knows(p, b));
                }
            }
            return most;
        }

        int worthAmong(int some) {
            int sum = 0;
            for (int b = 0; b < books; b++) {
                sum += worth[b] * mostKnown(b, some);
            }
            return sum;
        }

        int worthNow() {
            return worthAmong(setThere());
        }

        int booksKnown(int some, int v) {
            int bits = 0;
            for (int b = 0; b < books; b++) {
                if (mostKnown(b, some) >= v) {
                    bits |= 1 << b;
                }
            }
            return bits;
        }

        // Calls nothing, as it stands at the end of the deepest row of calls.
        int groundOf(int p, int b) {
            int least = WHOLE;
            for (int i = 0; i < b; i++) {
                if ((needed[b] >> i & 1) != 0 && share[p * MOST + i] < least) {
                    least = share[p * MOST + i];
                }
            }
            return least;
        }

        private static int grasped(int offered, int ground) {
            return offered * (ground + WHOLE) / (2 * WHOLE);
        }

        int wouldKnow(int p, int b) {
            int then = grasped(good[b] * reading[p] / 10, groundOf(p, b));
            return Math.max(then, knows(p, b));
        }

        void readBy(int p, int b) {
            learn(p, b, wouldKnow(p, b));
            white |= 1 << b;
        }

        /** How many of the others know more of it then. */
        int hearFrom(int p, int b, int others) {
            int heard = knows(p, b) / 2;
            int listeners = others & setThere() & ~(1 << p);
            int count = 0;
            for (int other = 0; other < people; other++) {
                int then = grasped(heard, groundOf(other, b));
                if (has(listeners, other) && then > knows(other, b)) {
                    learn(other, b, then);
                    count++;
                }
            }
            return count;
        }

        int writeBy(int p, int b) {
            white &= ~(1 << b);
            good[b] = knows(p, b);
            return good[b];
        }

        static int afterTelling(int x, int tells) {
            return x * tells / 10;
        }

        int gainByTelling(int p, int other, int b) {
            return Math.max(0, afterTelling(knows(p, b), telling[p]) - knows(other, b));
        }

        void tellTo(int p, int other, int b) {
            learn(other, b, knows(other, b) + gainByTelling(p, other, b));
        }

        int gainByReading(int b) {
            int p = bestReader(b);
            return p == NONE ? 0 : worth[b] * (wouldKnow(p, b) - mostKnown(b, setThere()));
        }

        int bestReader(int b) {
            int best = NONE;
            int most = 0;
            for (int p = 0; p < people; p++) {
                int then = has(gone, p) ? NONE : wouldKnow(p, b);
                if (then != NONE && (best == NONE || then > most || then == most && age[p] < age[best])) {
                    best = p;
                    most = then;
                }
            }
            return best;
        }

        int dearestUnread() {
            int best = NONE;
            for (int b = 0; b < books; b++) {
                if (!has(white, b) && (best == NONE || worth[b] > worth[best])) {
                    best = b;
                }
            }
            return best;
        }

        /** By rising numbers; NONE if there are fewer. */
        int unreadAt(int place) {
            int passed = 0;
            for (int b = 0; b < books; b++) {
                if (!has(white, b)) {
                    if (passed == place) {
                        return b;
                    }
                    passed++;
                }
            }
            return NONE;
        }

        int youngestBut(int one) {
            int best = NONE;
            for (int p = 0; p < people; p++) {
                if (p != one && !has(gone, p) && (best == NONE || age[p] < age[best])) {
                    best = p;
                }
            }
            return best;
        }

        // A book needs lesser numbers only, so going down meets each needed book behind all that need it.
        int allNeededBy(int book) {
            int bits = needed[book];
            for (int b = book - 1; b >= 0; b--) {
                if (has(bits, b)) {
                    bits |= needed[b];
                }
            }
            return bits;
        }

        int allThatNeed(int book) {
            int bits = 0;
            for (int b = book + 1; b < books; b++) {
                if (has(allNeededBy(b), book)) {
                    bits |= 1 << b;
                }
            }
            return bits;
        }

        /** How many are gone by it. */
        int endYear() {
            int there = setThere();
            for (int p = 0; p < people; p++) {
                if (has(there, p)) {
                    age[p]++;
                    if (age[p] > OLDEST) {
                        gone |= 1 << p;
                    }
                    forget(p);
                }
            }
            return Integer.bitCount(there & gone);
        }

        private void forget(int p) {
            int rest = has(gone, p) ? 0 : 90 + memory[p];
            for (int b = 0; b < books; b++) {
                learn(p, b, knows(p, b) * rest / 100);
            }
        }

        void drawDeaths() {
            for (int p = 0; p < people; p++) {
                if (!has(gone, p) && drawBelow20() < age[p]) {
                    gone |= 1 << p;
                }
            }
        }

        private int drawBelow20() {
            luck = luck * 1103515245 + 12345;
            return (luck >>> 16) % 20;
        }
    }

    /** What the rules say of a year. */
    private static final class Rules {
        static boolean isUnder(int kind, int above) {
            switch (above) {
                case RULE:
                    return true;
                case NOW:
                    return kind >= NOW && kind <= LOUD;
                case CHAIN:
                    return kind >= CHAIN && kind <= SAGE;
                default:
                    return kind == above;
            }
        }

        /** How many books are read by it. */
        static int act(Town town, int kind, int amount) {
            switch (kind) {
                case NOW:
                    return readDearest(town, MOST, false);
                case FEW:
                    return readDearest(town, amount, false);
                case LOUD:
                    return readDearest(town, MOST, true);
                case CHAIN:
                    tellChain(town);
                    return 0;
                case TWICE:
                    tellChain(town);
                    tellChain(town);
                    return 0;
                case SAGE:
                    tellChain(town);
                    return readDearest(town, 1, false);
                default:
                    return 0;
            }
        }

        private static int readDearest(Town town, int most, boolean loud) {
            int count = 0;
            for (int i = 0; i < MOST && i < most; i++) {
                int book = town.dearestUnread();
                int one = book == NONE ? NONE : town.bestReader(book);
                if (one == NONE) {
                    break;
                }
                town.readBy(one, book);
                if (loud) {
                    town.hearFrom(one, book, town.setThere());
                }
                count++;
            }
            return count;
        }

        private static void tellChain(Town town) {
            for (int p = 0; p < town.people; p++) {
                int other = has(town.gone, p) ? NONE : town.youngestBut(p);
                for (int b = 0; b < town.books && other != NONE; b++) {
                    town.tellTo(p, other, b);
                }
            }
        }
    }

    /** What would come of it, tried on towns that are made once and used again. */
    private static final class Plans {
        private final Town trial = new Town();
        private final Town second = new Town();
        private int lastValue;
        private int bestSum;

        Town trialOf(Town from) {
            trial.become(from);
            return trial;
        }

        int sumOfRun(Town town, int kind, int amount, int n) {
            int sum = 0;
            for (int i = 0; i < n; i++) {
                // All are gone within ten years: the years behind that are worth nothing and change nothing.
                if (town.setThere() == 0) {
                    lastValue = 0;
                    break;
                }
                Rules.act(town, kind, amount);
                lastValue = town.worthNow();
                sum += lastValue;
                town.endYear();
            }
            return sum;
        }

        /** The sum of years in which nothing is done. */
        static int sumOfRest(Town town, int n) {
            int sum = 0;
            for (int i = 0; i < n && town.setThere() != 0; i++) {
                sum += town.worthAmong(town.setThere());
                town.endYear();
            }
            return sum;
        }

        /** Leaves the sum in bestSum. */
        int bestWho(Town from, int book, int n) {
            int best = NONE;
            for (int p = 0; p < from.people; p++) {
                if (has(from.setThere(), p)) {
                    trial.become(from);
                    trial.readBy(p, book);
                    int sum = sumOfRest(trial, n);
                    if (best == NONE || sum > bestSum) {
                        best = p;
                        bestSum = sum;
                    }
                }
            }
            return best;
        }

        /** Leaves in bestSum what it is worth; false: nobody is there now, or then. */
        boolean findKeeping(Town from, int book, int n) {
            if (bestWho(from, book, n) == NONE) {
                return false;
            }
            int readNow = bestSum;
            second.become(from);
            int firstYear = sumOfRest(second, 1);
            if (bestWho(second, book, n - 1) == NONE) {
                return false;
            }
            bestSum = firstYear + bestSum - readNow;
            return true;
        }

        // Readings never lessen what is known, and a book needs lesser numbers only: read by rising numbers each
        // book meets the best ground it can, so no row is better than that first one.
        int worthByRising(Town from, int one) {
            trial.become(from);
            for (int b = 0; b < trial.books; b++) {
                if (!has(trial.white, b)) {
                    trial.readBy(one, b);
                }
            }
            return trial.worthAmong(1 << one);
        }
    }

    /** Eight shelves, each with room for the longest row, so that none is made again. */
    private static final class Shelves {
        private static final int LONGEST = 40;
        private static final int BYTES = 0;
        private static final int SHORTS = 1;
        private static final int INTS = 2;
        private static final int BOOLEANS = 4;
        private static final int FIRST_RULE = 10;

        // As holds() tells it: NONE, a sort of row, or 10 and a kind of rule.
        private final int[] holding = new int[MOST];
        private final int[] size = new int[MOST];
        private final int[] amount = new int[MOST];
        private final long[] elements = new long[MOST * LONGEST];

        Shelves() {
            for (int s = 0; s < MOST; s++) {
                holding[s] = NONE;
            }
        }

        boolean hasRow(int s) {
            return holding[s] >= BYTES && holding[s] <= BOOLEANS;
        }

        boolean hasRule(int s) {
            return holding[s] >= FIRST_RULE;
        }

        int kindIn(int s) {
            return holding[s] - FIRST_RULE;
        }

        int countHolding() {
            int count = 0;
            for (int s = 0; s < MOST; s++) {
                if (holding[s] != NONE) {
                    count++;
                }
            }
            return count;
        }

        void putRule(int s, int kind, int a) {
            holding[s] = FIRST_RULE + kind;
            amount[s] = a;
        }

        void putRow(int s, int sort, int n) {
            holding[s] = sort;
            size[s] = n;
            for (int i = 0; i < n; i++) {
                elements[s * LONGEST + i] = 0;
            }
        }

        long at(int s, int i) {
            return elements[s * LONGEST + i];
        }

        void put(int s, int i, long v) {
            elements[s * LONGEST + i] = lowestBits(holding[s], v);
        }

        void move(int p, int q, int i, int j, int n) {
            System.arraycopy(elements, p * LONGEST + i, elements, q * LONGEST + j, n);
        }

        private static long lowestBits(int sort, long v) {
            switch (sort) {
                case BYTES:
                    return (byte) v;
                case SHORTS:
                    return (short) v;
                case INTS:
                    return (int) v;
                case BOOLEANS:
                    return v != 0 ? 1 : 0;
                default:
                    return v;
            }
        }
    }

    /** The tape, and the reading of a town from it, one token ahead. */
    private static final class Tape {
        private static final int LONGEST = 250;
        private static final int END = 0;
        private static final int WORD = 1;
        private static final int NUMBER = 2;
        private static final int SIGN = 3;
        private static final int NO_TOKEN = 4;

        private final byte[] bytes = new byte[LONGEST];
        private int size;
        private int start;
        private int end;
        private int token;
        private int fault;
        private final Town draft = new Town();

        /** Only called while there is room. */
        void append(byte v) {
            bytes[size] = v;
            size++;
        }

        /** How many statements come to the town in the draft; fault is NONE, or the place of the fault. */
        int readFrom(Town town) {
            draft.become(town);
            fault = NONE;
            end = 0;
            step();
            for (int count = 1; count <= LONGEST; count++) {
                readStatement();
                if (fault != NONE || token == END) {
                    return count;
                }
                if (token != SIGN) {
                    fail();
                    return count;
                }
                step();
            }
            return LONGEST;
        }

        private void readStatement() {
            if (isWord("book")) {
                readBook();
            } else if (isWord("need")) {
                readNeed();
            } else if (isWord("one")) {
                readOne();
            } else if (isWord("knows")) {
                readKnows();
            } else if (isWord("white")) {
                readWhite();
            } else {
                fail();
            }
        }

        private void readBook() {
            if (draft.books >= MOST) {
                fail();
                return;
            }
            step();
            int worth = takeNumber(1, MOST_WORTH);
            int good = passes("good") ? takeNumber(0, WHOLE) : WHOLE;
            if (fault == NONE) {
                draft.good[draft.addBook(worth, 0)] = good;
            }
        }

        private void readNeed() {
            step();
            int book = takeNumber(0, draft.books - 1);
            int need = takeNumber(0, book - 1);
            if (fault == NONE) {
                draft.needed[book] |= 1 << need;
            }
        }

        private void readOne() {
            if (draft.people >= MOST) {
                fail();
                return;
            }
            step();
            int age = takeNumber(0, OLDEST);
            int reads = passes("reads") ? takeNumber(0, MOST_SKILL) : 5;
            int keeps = passes("keeps") ? takeNumber(0, MOST_SKILL) : 5;
            int tells = passes("tells") ? takeNumber(0, MOST_SKILL) : 5;
            if (fault == NONE) {
                draft.addOne(age, reads, keeps, tells);
            }
        }

        private void readKnows() {
            step();
            int one = takeNumber(0, draft.people - 1);
            int book = takeNumber(0, draft.books - 1);
            int share = takeNumber(0, WHOLE);
            if (fault == NONE) {
                draft.learn(one, book, share);
            }
        }

        private void readWhite() {
            step();
            int book = takeNumber(0, draft.books - 1);
            if (fault == NONE) {
                draft.white |= 1 << book;
            }
        }

        private boolean passes(String word) {
            if (fault != NONE || !isWord(word)) {
                return false;
            }
            step();
            return true;
        }

        /** NONE, and a fault, if none that may be stands there; behind a fault nothing is taken. */
        private int takeNumber(int least, int most) {
            int v = numberThere();
            if (fault != NONE || v < least || v > most) {
                fail();
                return NONE;
            }
            step();
            return v;
        }

        private int numberThere() {
            if (token != NUMBER || end - start > 3) {
                return NONE;
            }
            int v = 0;
            for (int i = start; i < end; i++) {
                v = 10 * v + bytes[i] - '0';
            }
            return v;
        }

        private boolean isWord(String word) {
            if (token != WORD || end - start != word.length()) {
                return false;
            }
            for (int i = 0; i < word.length(); i++) {
                if (bytes[start + i] != word.charAt(i)) {
                    return false;
                }
            }
            return true;
        }

        private void fail() {
            if (fault == NONE) {
                fault = start;
            }
        }

        private void step() {
            start = end;
            while (start < size && bytes[start] == ' ') {
                start++;
            }
            token = sortAt(start);
            end = token == END ? start : start + 1;
            boolean isLong = token == WORD || token == NUMBER;
            while (isLong && end < size && sortAt(end) == token) {
                end++;
            }
        }

        private int sortAt(int place) {
            if (place >= size) {
                return END;
            }
            int v = bytes[place];
            if (v >= 'a' && v <= 'z') {
                return WORD;
            }
            if (v >= '0' && v <= '9') {
                return NUMBER;
            }
            return v == ';' ? SIGN : NO_TOKEN;
        }
    }
}
