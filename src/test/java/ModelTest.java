import java.lang.reflect.InvocationTargetException;
import java.lang.reflect.Method;
import java.util.Arrays;
import java.util.HashMap;
import java.util.Map;
import java.util.Random;

/** Many runs of 512 calls by a fixed seed: each answer as the model has it, and nothing is ever thrown. */
public final class ModelTest {
    private static final int RUNS = 3000;
    private static final int CALLS = 512;
    // 250 bytes in fours, a wipe() ahead and a town() behind.
    private static final int MOST_OF_A_TEXT = 65;

    private final Random random;
    private final EachBookOnce x = new EachBookOnce();
    private final Model model = new Model();
    private int calls;

    private ModelTest(long seed) {
        random = new Random(seed);
    }

    private static final Map<String, Method> OWN = new HashMap<>();
    private static final Method[] FACE = face();

    private static Method[] face() {
        Method[] all = EachBookOnce.class.getDeclaredMethods();
        Method[] face = Arrays.stream(all).filter(m -> java.lang.reflect.Modifier.isPublic(m.getModifiers()))
                .sorted((a, b) -> a.getName().compareTo(b.getName())).toArray(Method[]::new);
        for (Method m : face) {
            OWN.put(m.getName(), modelMethod(m));
        }
        return face;
    }

    private static Method modelMethod(Method m) {
        for (Method own : Model.class.getDeclaredMethods()) {
            boolean isPlain = own.getReturnType() == long.class && own.getParameterCount() == m.getParameterCount();
            if (isPlain && own.getName().equals(m.getName())) {
                return own;
            }
        }
        throw new IllegalStateException("the model lacks " + m.getName());
    }

    private int small(int least, int most) {
        return least + random.nextInt(most - least + 1);
    }

    private int oneIn(int n, int odd, int plain) {
        return random.nextInt(n) == 0 ? odd : plain;
    }

    private int odd() {
        int[] all = {-1, -2, Integer.MIN_VALUE, Integer.MAX_VALUE, 1000, 1001, 61, 60, 40, 41, 100, 99, 8, 7, 21, 20, 256, 255};
        return all[random.nextInt(all.length)];
    }

    // Asked of the model, since a question to the object would be one of its 512 calls.
    private int people() {
        return model.w.people.size();
    }

    private int books() {
        return model.w.books.size();
    }

    private int person() {
        return small(0, Math.max(0, people() - 1));
    }

    private int book() {
        return small(0, Math.max(0, books() - 1));
    }

    private int[] plainArguments(String name) {
        switch (name) {
            case "row": return new int[] {small(0, 7), small(0, 4), small(0, 40)};
            case "set": return new int[] {small(0, 7), small(0, 39), random.nextBoolean() ? small(0, 12) : 100 * person() + book()};
            case "copy": return new int[] {small(0, 7), small(0, 7), small(0, 20), small(0, 20), small(0, 20)};
            case "element": return new int[] {small(0, 7), small(0, 39)};
            case "holds": return new int[] {small(0, 7)};
            case "rule": return new int[] {small(0, 7), small(1, 6), random.nextBoolean() ? small(0, 4) : small(0, 99)};
            case "says": return new int[] {small(0, 7), small(0, 6)};
            case "book": return new int[] {small(1, 99), random.nextInt(256) & (1 << books()) - 1};
            case "one": return new int[] {small(0, 9), small(0, 10), small(0, 10), small(0, 10)};
            case "ones": return new int[] {small(0, 7), 4 * small(0, 5)};
            case "feed": return new int[] {random.nextInt(), small(1, 4)};
            case "bookOf": return new int[] {book(), small(0, 4)};
            case "oneOf": return new int[] {person(), small(0, 4)};
            case "alter": return new int[] {person(), book(), small(0, 1000)};
            case "aloud": return new int[] {person(), book(), random.nextInt(256) & (1 << people()) - 1};
            case "tell": return new int[] {person(), person(), book()};
            case "reader": return new int[] {book()};
            case "run": return new int[] {small(0, 7), small(1, 20), small(0, 3)};
            case "head": return new int[] {small(1, 12)};
            case "who": return new int[] {book(), small(1, 14)};
            case "keeping": return new int[] {book(), small(2, 14)};
            case "order": return new int[] {person(), small(-1, 4)};
            case "left": return new int[] {small(0, 1000), small(0, 10), small(0, 99)};
            case "longest": return new int[] {small(0, 1000), small(0, 10), random.nextBoolean() ? small(1, 1000) : small(1, 9)};
            case "lost": case "bear": return new int[] {random.nextBoolean() ? small(1, 1000) : small(1, 200)};
            case "youngest": return new int[] {person()};
            case "needs": return new int[] {book(), small(0, 1)};
            case "two": return new int[] {person(), person()};
            case "gains": return new int[] {small(0, 7), small(1, 20)};
            case "judge": case "told": return new int[] {small(0, 7), small(0, 4)};
            case "years": return new int[] {small(0, 7), small(1, 3)};
            case "seed": return new int[] {random.nextInt()};
            case "status": return new int[] {small(-1, 17)};
            case "wipe": case "town": case "value": case "hangs": case "next": case "ends": case "image": case "back":
                return new int[0];
            default: return new int[] {person(), book()};
        }
    }

    private Object[] arguments(Method m) {
        int[] plain = plainArguments(m.getName());
        Class<?>[] types = m.getParameterTypes();
        Object[] all = new Object[types.length];
        for (int i = 0; i < all.length; i++) {
            int v = oneIn(12, odd(), plain[i]);
            all[i] = types[i] == boolean.class ? (Object) (v % 2 != 0)
                    : types[i] == long.class ? (Object) (random.nextInt(4) == 0 ? random.nextLong() : (long) v) : (Object) v;
        }
        return all;
    }

    private static final String[] WORDS = {"book", "need", "one", "knows", "white", "good", "reads", "keeps", "tells", "boo", "x"};

    private String randomText() {
        StringBuilder text = new StringBuilder();
        int count = small(1, 9);
        int books = books();
        int people = people();
        for (int i = 0; i < count; i++) {
            text.append(i == 0 ? "" : random.nextInt(40) == 0 ? " " : random.nextBoolean() ? ";" : " ; ");
            switch (books == 0 ? 0 : people == 0 ? 2 : random.nextInt(6)) {
                case 0: text.append("book ").append(small(1, 99)).append(random.nextBoolean() ? " good " + small(0, 999) : ""); books++; break;
                case 1: text.append("need ").append(small(0, books - 1)).append(' ').append(small(0, Math.max(0, books - 2))); break;
                case 2: text.append("one ").append(small(0, 9)).append(random.nextBoolean() ? "reads" + small(0, 10) : "")
                        .append(random.nextBoolean() ? " keeps " + small(0, 10) : "").append(random.nextBoolean() ? " tells " + small(0, 10) : ""); people++; break;
                case 3: case 4: text.append("knows ").append(small(0, people - 1)).append(' ').append(small(0, books - 1)).append("  ").append(small(0, 999)); break;
                default: text.append("white ").append(small(0, books - 1)); break;
            }
        }
        if (random.nextInt(3) == 0) {
            int at = random.nextInt(text.length());
            String piece = random.nextInt(3) == 0 ? String.valueOf((char) random.nextInt(256))
                    : random.nextBoolean() ? WORDS[random.nextInt(WORDS.length)] : String.valueOf(random.nextInt(1200));
            text.insert(at, piece);
        }
        if (random.nextInt(6) == 0) {
            text.setLength(random.nextInt(text.length() + 1));
        }
        return text.length() > 250 ? text.substring(0, 250) : text.toString();
    }

    private boolean sameBehind(String call, long got, long want, long seed, int place) {
        if (got != want) {
            System.out.println("run " + seed + " call " + place + ": " + call + " answered " + got + ", the model says " + want);
        }
        return got == want;
    }

    private boolean call(long seed, int place) throws ReflectiveOperationException {
        Method m = FACE[random.nextInt(FACE.length)];
        if (m.getName().equals("back") && random.nextInt(3) != 0) {
            m = Arrays.stream(FACE).filter(f -> f.getName().equals("image")).findFirst().get();
        }
        Object[] all = arguments(m);
        Method own = OWN.get(m.getName());
        int below = m.getName().equals("keeping") || m.getName().equals("gains") ? 1000000 : 0;
        long want = model.answer(() -> invoke(own, model, all), below);
        long got = invoke(m, x, all);
        calls++;
        return sameBehind(m.getName() + Arrays.toString(all), got, want, seed, place);
    }

    private static long invoke(Method m, Object on, Object[] all) {
        try {
            Object[] fitting = all.clone();
            for (int i = 0; i < all.length; i++) {
                if (m.getParameterTypes()[i] == long.class && all[i] instanceof Integer) {
                    fitting[i] = ((Integer) all[i]).longValue();
                }
            }
            return ((Number) m.invoke(on, fitting)).longValue();
        } catch (InvocationTargetException e) {
            if (e.getCause() instanceof Model.Refusal) {
                throw (Model.Refusal) e.getCause();
            }
            throw new IllegalStateException(m.getName() + Arrays.toString(all) + " threw", e.getCause());
        } catch (IllegalAccessException e) {
            throw new IllegalStateException(e);
        }
    }

    private boolean textCall(long seed, int place) {
        String text = randomText();
        x.wipe();
        model.wipe();
        for (int i = 0; i < text.length(); i += 4) {
            int n = Math.min(4, text.length() - i);
            int v = random.nextInt();
            for (int j = i; j < i + n; j++) {
                v = v << 8 | text.charAt(j);
            }
            x.feed(v, n);
            model.feed(v, n);
            calls++;
        }
        calls += 2;
        return sameBehind("town() of " + text, x.town(), model.town(), seed, place);
    }

    private boolean run(long seed) throws ReflectiveOperationException {
        while (calls < CALLS) {
            int place = calls;
            boolean hasRoom = calls < CALLS - MOST_OF_A_TEXT;
            boolean isSame = calls == 0 || hasRoom && random.nextInt(60) == 0 ? textCall(seed, place) : call(seed, place);
            if (!isSame) {
                return false;
            }
        }
        return true;
    }

    public static void main(String[] args) throws ReflectiveOperationException {
        int wrong = 0;
        for (long seed = 1; seed <= RUNS && wrong < 5; seed++) {
            if (!new ModelTest(seed).run(seed)) {
                wrong++;
            }
        }
        System.out.println(wrong == 0 ? RUNS + " runs are as the model has them" : "some runs are not as the model has them");
        if (wrong != 0) {
            System.exit(1);
        }
    }
}
