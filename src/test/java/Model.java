import java.util.ArrayList;
import java.util.Arrays;
import java.util.List;
import java.util.function.IntUnaryOperator;
import java.util.regex.Matcher;
import java.util.regex.Pattern;

/** The document once more, written as plainly as can be and another way, for ModelTest to compare with. */
final class Model {
    static final class Book {
        int worth;
        List<Integer> needs = new ArrayList<>();
        int good = 1000;
        boolean white;
    }

    static final class Person {
        int age;
        int reads;
        int keeps;
        int tells;
        boolean gone;
        int[] known = new int[8];
    }

    static final class Row {
        int sort;
        long[] elements;
    }

    static final class Rule {
        int kind;
        int a;
    }

    static final class Refusal extends RuntimeException {
        private static final long serialVersionUID = 1L;
        final int kind;

        Refusal(int kind) {
            super(null, null, false, false);
            this.kind = kind;
        }
    }

    static final class Fault extends RuntimeException {
        private static final long serialVersionUID = 1L;
        final int place;

        Fault(int place) {
            super(null, null, false, false);
            this.place = place;
        }
    }

    /** The part that is kept by image() and tried in runs. */
    static final class World {
        List<Book> books = new ArrayList<>();
        List<Person> people = new ArrayList<>();
        int seed = 1;

        World twin() {
            World w = new World();
            w.seed = seed;
            for (Book b : books) {
                Book c = new Book();
                c.worth = b.worth;
                c.needs = new ArrayList<>(b.needs);
                c.good = b.good;
                c.white = b.white;
                w.books.add(c);
            }
            for (Person p : people) {
                Person q = new Person();
                q.age = p.age;
                q.reads = p.reads;
                q.keeps = p.keeps;
                q.tells = p.tells;
                q.gone = p.gone;
                q.known = p.known.clone();
                w.people.add(q);
            }
            return w;
        }

        List<Integer> there() {
            List<Integer> all = new ArrayList<>();
            for (int i = 0; i < people.size(); i++) {
                if (!people.get(i).gone) {
                    all.add(i);
                }
            }
            return all;
        }

        List<Integer> unread() {
            List<Integer> all = new ArrayList<>();
            for (int i = 0; i < books.size(); i++) {
                if (!books.get(i).white) {
                    all.add(i);
                }
            }
            return all;
        }

        int ground(int p, int b) {
            return books.get(b).needs.stream().mapToInt(n -> people.get(p).known[n]).min().orElse(1000);
        }

        int would(int p, int b) {
            int first = books.get(b).good * people.get(p).reads / 10;
            int then = first * (ground(p, b) + 1000) / 2000;
            return then > people.get(p).known[b] ? then : people.get(p).known[b];
        }

        int read(int p, int b) {
            people.get(p).known[b] = would(p, b);
            books.get(b).white = true;
            return people.get(p).known[b];
        }

        int aloud(int p, int b, List<Integer> others) {
            int half = read(p, b) / 2;
            int more = 0;
            for (int o : others) {
                if (o != p && !people.get(o).gone) {
                    int v = half * (ground(o, b) + 1000) / 2000;
                    if (v > people.get(o).known[b]) {
                        people.get(o).known[b] = v;
                        more++;
                    }
                }
            }
            return more;
        }

        int tell(int p, int o, int b) {
            int v = people.get(p).known[b] * people.get(p).tells / 10;
            int was = people.get(o).known[b];
            if (v <= was) {
                return 0;
            }
            people.get(o).known[b] = v;
            return v - was;
        }

        int end() {
            int dead = 0;
            for (int p : there()) {
                Person q = people.get(p);
                for (int b = 0; b < 8; b++) {
                    q.known[b] = q.known[b] * (90 + q.keeps) / 100;
                }
                if (++q.age == 10) {
                    q.gone = true;
                    Arrays.fill(q.known, 0);
                    dead++;
                }
            }
            return dead;
        }

        int value(List<Integer> of) {
            int sum = 0;
            for (int b = 0; b < books.size(); b++) {
                final int book = b;
                sum += books.get(b).worth * of.stream().mapToInt(p -> people.get(p).known[book]).max().orElse(0);
            }
            return sum;
        }

        int value() {
            return value(there());
        }

        int youngest(int but) {
            return there().stream().filter(p -> p != but)
                    .min((p, q) -> Integer.compare(people.get(p).age, people.get(q).age)).orElse(-1);
        }

        int reader(int b) {
            List<Integer> all = there();
            all.sort((p, q) -> {
                int c = Integer.compare(would(q, b), would(p, b));
                return c != 0 ? c : Integer.compare(people.get(p).age, people.get(q).age);
            });
            return all.isEmpty() ? -1 : all.get(0);
        }

        int draw(int n) {
            seed = seed * 1103515245 + 12345;
            return (seed >> 16 & 0xFFFF) % n;
        }

        int few(int most, boolean loud) {
            int done = 0;
            while (done < most && !unread().isEmpty() && !there().isEmpty()) {
                int best = unread().stream().max((b, c) -> {
                    int d = Integer.compare(books.get(b).worth, books.get(c).worth);
                    return d != 0 ? d : Integer.compare(c, b);
                }).get();
                int p = reader(best);
                aloud(p, best, loud ? there() : List.of());
                done++;
            }
            return done;
        }

        void chain() {
            for (int p : there()) {
                for (int b = 0; b < books.size(); b++) {
                    int o = youngest(p);
                    if (o >= 0) {
                        tell(p, o, b);
                    }
                }
            }
        }

        int year(Rule r) {
            switch (r.kind) {
                case 1: return few(99, false);
                case 2: return few(r.a, false);
                case 3: return few(99, true);
                case 4: chain(); return 0;
                case 5: chain(); chain(); return 0;
                case 6: chain(); return few(1, false);
                default: return 0;
            }
        }

        int sum(Rule r, int n) {
            int sum = 0;
            for (int i = 0; i < n; i++) {
                year(r);
                sum += value();
                end();
            }
            return sum;
        }

        int sumIfReads(int p, int b, int n) {
            World w = twin();
            w.read(p, b);
            return w.sum(new Rule(), n);
        }

        int who(int b, int n) {
            int best = -1;
            for (int p : there()) {
                if (best < 0 || sumIfReads(p, b, n) > sumIfReads(best, b, n)) {
                    best = p;
                }
            }
            return best;
        }
    }

    World w = new World();
    World kept;
    Object[] shelf = new Object[8];
    StringBuilder tape = new StringBuilder();
    int[] refusals = new int[5];
    int yearsEnded;
    int values;

    interface Call {
        long made();
    }

    long answer(Call c, int below) {
        try {
            return c.made();
        } catch (Refusal r) {
            refusals[-2 - r.kind]++;
            return r.kind - below;
        }
    }

    static void want(boolean fine, int kind) {
        if (!fine) {
            throw new Refusal(kind);
        }
    }

    static void bad(boolean isBad) {
        want(!isBad, -2);
    }

    static void stuck(boolean isStuck) {
        want(!isStuck, -5);
    }

    static boolean in(long v, long lo, long hi) {
        return v >= lo && v <= hi;
    }

    Book b(int book) {
        bad(book < 0 || book >= w.books.size());
        return w.books.get(book);
    }

    Person p(int one) {
        bad(one < 0 || one >= w.people.size());
        return w.people.get(one);
    }

    Row rowIn(int s) {
        bad(!in(s, 0, 7));
        want(!(shelf[s] instanceof Rule), -3);
        want(shelf[s] != null, -4);
        return (Row) shelf[s];
    }

    Rule ruleIn(int s) {
        bad(!in(s, 0, 7));
        want(!(shelf[s] instanceof Row), -3);
        want(shelf[s] != null, -4);
        return (Rule) shelf[s];
    }

    static List<Integer> members(int bits, int count) {
        List<Integer> all = new ArrayList<>();
        for (int i = 0; i < 32; i++) {
            if ((bits & 1 << i) != 0) {
                bad(i >= count);
                all.add(i);
            }
        }
        return all;
    }

    static int bits(int count, IntUnaryOperator isIn) {
        int all = 0;
        for (int i = 0; i < count; i++) {
            all += isIn.applyAsInt(i) != 0 ? 1 << i : 0;
        }
        return all;
    }

    long row(int s, int sort, int n) {
        bad(!in(s, 0, 7) || !in(sort, 0, 4) || !in(n, 0, 40));
        Row r = new Row();
        r.sort = sort;
        r.elements = new long[n];
        shelf[s] = r;
        return 1;
    }

    long set(int s, int i, long v) {
        Row r = rowIn(s);
        bad(!in(i, 0, r.elements.length - 1));
        int[] wide = {8, 16, 32, 64};
        r.elements[i] = r.sort == 4 ? (v == 0 ? 0 : 1) : v << 64 - wide[r.sort] >> 64 - wide[r.sort];
        return 1;
    }

    long copy(int p, int q, int i, int j, int n) {
        bad(!in(p, 0, 7) || !in(q, 0, 7));
        want(!(shelf[p] instanceof Rule) && !(shelf[q] instanceof Rule), -3);
        if (shelf[p] instanceof Row && shelf[q] instanceof Row) {
            want(((Row) shelf[p]).sort == ((Row) shelf[q]).sort, -3);
        }
        want(shelf[p] != null && shelf[q] != null, -4);
        long[] from = ((Row) shelf[p]).elements.clone();
        long[] to = ((Row) shelf[q]).elements;
        bad(i < 0 || j < 0 || n < 0 || (long) i + n > from.length || (long) j + n > to.length);
        for (int k = 0; k < n; k++) {
            to[j + k] = from[i + k];
        }
        return n;
    }

    long element(int s, int i) {
        return in(s, 0, 7) && shelf[s] instanceof Row && in(i, 0, ((Row) shelf[s]).elements.length - 1)
                ? ((Row) shelf[s]).elements[i] : 0;
    }

    long holds(int s) {
        if (!in(s, 0, 7) || shelf[s] == null) {
            return -1;
        }
        return shelf[s] instanceof Row ? ((Row) shelf[s]).sort : 10 + ((Rule) shelf[s]).kind;
    }

    long rule(int s, int kind, int a) {
        bad(!in(s, 0, 7) || !in(kind, 1, 6) || !in(a, 0, 99));
        Rule r = new Rule();
        r.kind = kind;
        r.a = a;
        shelf[s] = r;
        return 1;
    }

    long says(int s, int kind) {
        bad(!in(s, 0, 7) || !in(kind, 0, 6));
        Rule r = ruleIn(s);
        int[] above = {-1, 0, 1, 1, 0, 4, 4};
        int k = r.kind;
        while (k != kind) {
            want(k > 0, -3);
            k = above[k];
        }
        if (kind == 0) {
            return r.a;
        }
        World t = w.twin();
        int read = t.year(r);
        return kind <= 3 ? read : t.value();
    }

    long book(int worth, int needs) {
        bad(!in(worth, 1, 99));
        List<Integer> all = members(needs, w.books.size());
        want(w.books.size() < 8, -6);
        Book b = new Book();
        b.worth = worth;
        b.needs = all;
        w.books.add(b);
        return w.books.size() - 1;
    }

    long one(long age, long reads, long keeps, long tells) {
        bad(!in(age, 0, 9) || !in(reads, 0, 10) || !in(keeps, 0, 10) || !in(tells, 0, 10));
        want(w.people.size() < 8, -6);
        Person p = new Person();
        p.age = (int) age;
        p.reads = (int) reads;
        p.keeps = (int) keeps;
        p.tells = (int) tells;
        w.people.add(p);
        return w.people.size() - 1;
    }

    long ones(int s, int n) {
        long[] e = rowIn(s).elements;
        bad(n < 0 || n > e.length || n % 4 != 0);
        int came = 0;
        try {
            for (; came < n / 4; came++) {
                one(e[4 * came], e[4 * came + 1], e[4 * came + 2], e[4 * came + 3]);
            }
        } catch (Refusal r) {
            return came;
        }
        return came;
    }

    long feed(int v, int n) {
        bad(!in(n, 1, 4));
        want(tape.length() + n <= 250, -6);
        for (int i = n - 1; i >= 0; i--) {
            tape.append((char) (v >> 8 * i & 255));
        }
        return tape.length();
    }

    long wipe() {
        int n = tape.length();
        tape.setLength(0);
        return n;
    }

    private static final Pattern TOKEN = Pattern.compile(" *([a-z]+|[0-9]+|;|[^ ]|$)");
    private Matcher tokens;
    private String token;
    private World draft;

    private void step() {
        tokens.find();
        token = tokens.group(1);
    }

    private Fault fault() {
        return new Fault(tokens.start(1));
    }

    private int number(int lo, int hi) {
        if (!token.matches("[0-9]{1,3}") || !in(Integer.parseInt(token), lo, hi)) {
            throw fault();
        }
        int v = Integer.parseInt(token);
        step();
        return v;
    }

    private int perhaps(String word, int hi, int untold) {
        if (!token.equals(word)) {
            return untold;
        }
        step();
        return number(0, hi);
    }

    private void statement() {
        String word = token;
        boolean full = word.equals("book") && draft.books.size() == 8 || word.equals("one") && draft.people.size() == 8;
        if (full || !List.of("book", "need", "one", "knows", "white").contains(word)) {
            throw fault();
        }
        step();
        if (word.equals("book")) {
            Book b = new Book();
            b.worth = number(1, 99);
            b.good = perhaps("good", 1000, 1000);
            draft.books.add(b);
        } else if (word.equals("need")) {
            int i = number(0, draft.books.size() - 1);
            int j = number(0, i - 1);
            if (!draft.books.get(i).needs.contains(j)) {
                draft.books.get(i).needs.add(j);
            }
        } else if (word.equals("one")) {
            Person p = new Person();
            p.age = number(0, 9);
            p.reads = perhaps("reads", 10, 5);
            p.keeps = perhaps("keeps", 10, 5);
            p.tells = perhaps("tells", 10, 5);
            draft.people.add(p);
        } else if (word.equals("knows")) {
            int p = number(0, draft.people.size() - 1);
            int i = number(0, draft.books.size() - 1);
            draft.people.get(p).known[i] = number(0, 1000);
        } else {
            draft.books.get(number(0, draft.books.size() - 1)).white = true;
        }
    }

    long town() {
        tokens = TOKEN.matcher(tape.toString());
        tape.setLength(0);
        draft = w.twin();
        try {
            int count = 0;
            step();
            while (true) {
                statement();
                count++;
                if (token.isEmpty()) {
                    w = draft;
                    return count;
                }
                if (!token.equals(";")) {
                    throw fault();
                }
                step();
            }
        } catch (Fault f) {
            refusals[0]++;
            return -20 - f.place;
        }
    }

    long bookOf(int book, int what) {
        Book b = b(book);
        bad(!in(what, 0, 4));
        int most = w.people.stream().mapToInt(p -> p.known[book]).max().orElse(0);
        int needs = b.needs.stream().mapToInt(n -> 1 << n).sum();
        return new int[] {b.worth, needs, b.good, b.white ? 1 : 0, most}[what];
    }

    long oneOf(int one, int what) {
        Person p = p(one);
        bad(!in(what, 0, 4));
        return new int[] {p.age, p.reads, p.keeps, p.tells, p.gone ? 1 : 0}[what];
    }

    long known(int one, int book) {
        b(book);
        return p(one).known[book];
    }

    long alter(int one, int book, int v) {
        b(book);
        Person p = p(one);
        bad(!in(v, 0, 1000));
        stuck(p.gone);
        int was = p.known[book];
        p.known[book] = v;
        return was;
    }

    long ground(int one, int book) {
        b(book);
        p(one);
        return w.ground(one, book);
    }

    private void mayRead(int one, int book) {
        b(book);
        p(one);
        stuck(b(book).white || p(one).gone);
    }

    long would(int one, int book) {
        mayRead(one, book);
        return w.would(one, book);
    }

    long read(int one, int book) {
        mayRead(one, book);
        return w.read(one, book);
    }

    long aloud(int one, int book, int others) {
        List<Integer> all = members(others, w.people.size());
        mayRead(one, book);
        return w.aloud(one, book, all);
    }

    long tell(int one, int other, int book) {
        b(book);
        bad(one == other);
        stuck(p(one).gone | p(other).gone);
        return w.tell(one, other, book);
    }

    long write(int one, int book) {
        Book b = b(book);
        Person p = p(one);
        stuck(!b.white || p.gone || p.known[book] == 0);
        b.white = false;
        b.good = p.known[book];
        return b.good;
    }

    long value() {
        return w.value();
    }

    long reader(int book) {
        stuck(b(book).white);
        return w.reader(book);
    }

    long run(int s, int n, int what) {
        bad(!in(s, 0, 7) || !in(n, 1, 60) || !in(what, 0, 3));
        Rule r = ruleIn(s);
        World t = w.twin();
        int sum = t.sum(r, n - 1);
        t.year(r);
        int last = t.value();
        t.end();
        return new int[] {sum + last, last, t.books.size() - t.unread().size(), t.there().size()}[what];
    }

    long head(int n) {
        bad(!in(n, 1, 60));
        int best = -1;
        for (int s = 7; s >= 0; s--) {
            if (shelf[s] instanceof Rule && (best < 0 || run(s, n, 0) >= run(best, n, 0))) {
                best = s;
            }
        }
        stuck(best < 0);
        return best;
    }

    long who(int book, int n) {
        Book b = b(book);
        bad(!in(n, 1, 60));
        stuck(b.white || w.there().isEmpty());
        return w.who(book, n);
    }

    private List<Integer> bestRow;
    private int bestAlone;

    private void tryRows(World t, int one, List<Integer> done) {
        if (t.unread().isEmpty()) {
            int v = t.value(List.of(one));
            if (v > bestAlone) {
                bestAlone = v;
                bestRow = new ArrayList<>(done);
            }
            return;
        }
        for (int b : t.unread()) {
            World u = t.twin();
            u.read(one, b);
            done.add(b);
            tryRows(u, one, done);
            done.remove(done.size() - 1);
        }
    }

    long order(int one, int what) {
        Person p = p(one);
        bad(!in(what, -1, w.unread().size() - 1));
        stuck(p.gone || w.unread().size() > 5);
        bestAlone = -1;
        tryRows(w.twin(), one, new ArrayList<>());
        return what < 0 ? bestAlone : bestRow.get(what);
    }

    long keeping(int book, int n) {
        Book b = b(book);
        bad(!in(n, 2, 60));
        stuck(b.white || w.there().isEmpty());
        int now = w.sumIfReads(w.who(book, n), book, n);
        World t = w.twin();
        int first = t.sum(new Rule(), 1);
        stuck(t.there().isEmpty());
        return first + t.sumIfReads(t.who(book, n - 1), book, n - 1) - now;
    }

    long left(int x, int tells, int n) {
        bad(!in(x, 0, 1000) || !in(tells, 0, 10) || !in(n, 0, 99));
        return n == 0 ? x : left(x, tells, n - 1) * tells / 10;
    }

    long longest(int x, int tells, int v) {
        bad(!in(x, 0, 1000) || !in(tells, 0, 10) || !in(v, 1, 1000));
        for (int n = 99; n >= 0; n--) {
            if (left(x, tells, n) >= v) {
                return n;
            }
        }
        return -1;
    }

    long hangs() {
        stuck(w.there().isEmpty());
        int best = -1;
        int least = 0;
        for (int p : w.there()) {
            World t = w.twin();
            t.people.get(p).gone = true;
            if (best < 0 || t.value() < least) {
                best = p;
                least = t.value();
            }
        }
        return best;
    }

    private boolean isKnown(List<Integer> by, int book, int v) {
        return by.stream().anyMatch(p -> w.people.get(p).known[book] >= v);
    }

    long lost(int v) {
        bad(!in(v, 1, 1000));
        return bits(w.books.size(), b -> isKnown(w.there(), b, v) ? 0 : 1);
    }

    long bear(int v) {
        bad(!in(v, 1, 1000));
        for (int size = 0; size <= 8; size++) {
            for (int set = 0; set < 256; set++) {
                final int chosen = set;
                List<Integer> some = w.there();
                some.removeIf(p -> (chosen >> p & 1) == 0);
                if (Integer.bitCount(set) == size && some.size() == size
                        && bits(w.books.size(), b -> isKnown(some, b, v) ? 0 : 1) == lost(v)) {
                    return set;
                }
            }
        }
        throw new IllegalStateException();
    }

    long youngest(int one) {
        p(one);
        return w.youngest(one);
    }

    long teach(int one, int book) {
        b(book);
        stuck(p(one).gone);
        int best = -1;
        int most = 0;
        for (int o : w.there()) {
            int more = o == one ? 0 : w.twin().tell(one, o, book);
            if (more > most) {
                most = more;
                best = o;
            }
        }
        return best;
    }

    private boolean needs(int i, int j) {
        return w.books.get(i).needs.stream().anyMatch(n -> n == j || needs(n, j));
    }

    long needs(int book, boolean other) {
        b(book);
        return bits(w.books.size(), i -> (other ? needs(i, book) : needs(book, i)) ? 1 : 0);
    }

    long next() {
        int best = -1;
        int most = w.value();
        for (int b : w.unread()) {
            World t = w.twin();
            if (t.reader(b) >= 0) {
                t.read(t.reader(b), b);
            }
            if (t.value() > most) {
                most = t.value();
                best = b;
            }
        }
        return best;
    }

    long two(int one, int other) {
        p(one);
        p(other);
        List<Integer> some = w.there();
        some.removeIf(p -> p != one && p != other);
        return w.value(some);
    }

    long gains(int s, int n) {
        bad(!in(s, 0, 7) || !in(n, 1, 60));
        return w.twin().sum(ruleIn(s), n) - w.twin().sum(new Rule(), n);
    }

    private World behind;

    private int wrong(int s, int n) {
        bad(!in(s, 0, 7) || !in(n, 0, 20));
        long[] e = rowIn(s).elements;
        bad(n > e.length);
        behind = w.twin();
        for (int i = 0; i < n; i++) {
            long one = Math.floorDiv(e[i], 100L);
            long book = Math.floorMod(e[i], 100L);
            if (!in(one, 0, behind.people.size() - 1) || !in(book, 0, behind.books.size() - 1)
                    || behind.people.get((int) one).gone || behind.books.get((int) book).white) {
                return i;
            }
            behind.read((int) one, (int) book);
        }
        return -1;
    }

    long judge(int s, int n) {
        return wrong(s, n);
    }

    long told(int s, int n) {
        stuck(wrong(s, n) >= 0);
        return behind.value();
    }

    long years(int s, int n) {
        bad(!in(s, 0, 7) || !in(n, 1, 20));
        Rule r = ruleIn(s);
        int sum = 0;
        for (int i = 0; i < n; i++) {
            w.year(r);
            sum += w.value();
            for (int p : w.there()) {
                if (w.draw(20) < w.people.get(p).age) {
                    w.people.get(p).gone = true;
                }
            }
            w.end();
            yearsEnded++;
        }
        values += sum;
        return sum;
    }

    long ends() {
        yearsEnded++;
        return w.end();
    }

    long seed(int v) {
        int was = w.seed;
        w.seed = v;
        return was;
    }

    long image() {
        kept = w.twin();
        return 1;
    }

    long back() {
        stuck(kept == null);
        w = kept.twin();
        return 1;
    }

    long status(int what) {
        if (in(what, 12, 16)) {
            return refusals[what - 12];
        }
        switch (what) {
            case 0: return w.books.size();
            case 1: return w.books.size() - w.unread().size();
            case 2: return w.people.size();
            case 3: return w.people.size() - w.there().size();
            case 4: return yearsEnded;
            case 5: return values;
            case 6: return tape.length();
            case 7: return w.seed;
            case 8: return Arrays.stream(shelf).filter(s -> s != null).count();
            default: return -1;
        }
    }
}
