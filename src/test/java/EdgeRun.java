import java.lang.reflect.InvocationTargetException;
import java.lang.reflect.Method;
import java.util.ArrayList;
import java.util.Arrays;
import java.util.HashMap;
import java.util.List;
import java.util.Map;
import java.util.Set;
import java.util.regex.Matcher;
import java.util.regex.Pattern;

/**
 * One run of told calls on a new object. At its end a twin, on which only those calls are made that should change
 * something, must look the same: so each refusal and each question is seen to change nothing.
 */
final class EdgeRun {
    private static final int MOST_CALLS = 512;
    private static final Pattern CALL = Pattern.compile("(\\w+)\\((.*)\\)(?: ([=!]) (\\S+))?");
    private static final Pattern TEXT = Pattern.compile("\"(.*)\" ([=!]) (\\S+)", Pattern.DOTALL);
    private static final List<String> KINDS = List.of("BAD", "OTHER", "NOTHING", "STUCK", "FULL");
    private static final Set<String> CHANGING = Set.of("row", "set", "copy", "rule", "book", "one", "ones", "feed", "wipe", "town",
            "alter", "read", "aloud", "tell", "write", "years", "ends", "seed", "image", "back");
    private static final Map<String, Method> FACE = new HashMap<>();

    private final Edges edges;
    private final List<String> lines;
    private EachBookOnce x = new EachBookOnce();
    private int calls;
    private final int[] refused = new int[KINDS.size()];
    private final List<Object[]> changes = new ArrayList<>();

    EdgeRun(Edges edges, List<String> lines) {
        this.edges = edges;
        this.lines = lines;
        if (FACE.isEmpty()) {
            Arrays.stream(EachBookOnce.class.getMethods()).forEach(m -> FACE.put(m.getName(), m));
        }
    }

    void made() {
        for (String line : lines) {
            Matcher text = TEXT.matcher(line);
            if (text.matches()) {
                feedAll(text.group(1));
                call(line, "town", "", text.group(2), text.group(3));
            } else {
                Matcher call = CALL.matcher(line);
                if (!call.matches() || !FACE.containsKey(call.group(1))) {
                    throw new IllegalStateException("no such line: " + line);
                }
                call(line, call.group(1), call.group(2), call.group(3), call.group(4));
            }
        }
        refusalsAreCounted();
        looksAsItsTwin();
        edges.must(calls <= MOST_CALLS, calls + " calls are more than are promised: " + lines);
    }

    private void feedAll(String text) {
        for (int i = 0; i < text.length(); i += 4) {
            int n = Math.min(4, text.length() - i);
            int v = 0;
            for (int j = i; j < i + n; j++) {
                v = v << 8 | text.charAt(j);
            }
            call("feed of " + text, "feed", v + ", " + n, null, null);
        }
    }

    private void call(String line, String name, String told, String sign, String due) {
        Object[] arguments = arguments(FACE.get(name), told);
        long got = invoked(name, arguments);
        boolean isRefusal = "!".equals(sign);
        if (isRefusal) {
            int kind = due.matches("\\d+") ? 0 : KINDS.indexOf(due);
            if (kind < 0) {
                throw new IllegalStateException("no such refusal: " + line);
            }
            refused[kind]++;
            long below = name.equals("keeping") || name.equals("gains") ? 1000000 : 0;
            long want = due.matches("\\d+") ? -20 - number(due) : -2 - kind - below;
            edges.must(got == want, line + " answered " + got + ", due is " + want + behind());
        } else if (sign != null) {
            edges.must(got == number(due), line + " answered " + got + behind());
        }
        if (isRefusal && name.equals("town")) {
            changes.add(new Object[] {"wipe", new Object[0]});
        } else if (!isRefusal && CHANGING.contains(name)) {
            changes.add(new Object[] {name, arguments});
        }
    }

    private String behind() {
        return " in " + lines;
    }

    private static long number(String told) {
        switch (told) {
            case "NONE": return EachBookOnce.NONE;
            case "MIN": return Integer.MIN_VALUE;
            case "MAX": return Integer.MAX_VALUE;
            case "LMIN": return Long.MIN_VALUE;
            case "LMAX": return Long.MAX_VALUE;
            default: return Long.decode(told);
        }
    }

    private static Object[] arguments(Method method, String told) {
        String[] all = told.isBlank() ? new String[0] : told.split(", ");
        Class<?>[] types = method.getParameterTypes();
        if (all.length != types.length) {
            throw new IllegalStateException(method.getName() + " takes no such arguments: " + told);
        }
        Object[] arguments = new Object[all.length];
        for (int i = 0; i < all.length; i++) {
            if (types[i] == boolean.class) {
                arguments[i] = Boolean.valueOf(all[i]);
            } else {
                long v = number(all[i]);
                arguments[i] = types[i] == long.class ? (Object) v : (Object) (int) v;
            }
        }
        return arguments;
    }

    private long invoked(String name, Object... arguments) {
        calls++;
        try {
            return ((Number) FACE.get(name).invoke(x, arguments)).longValue();
        } catch (InvocationTargetException e) {
            throw new IllegalStateException(name + Arrays.toString(arguments) + " threw" + behind(), e.getCause());
        } catch (IllegalAccessException e) {
            throw new IllegalStateException(e);
        }
    }

    private void refusalsAreCounted() {
        for (int i = 0; i < refused.length; i++) {
            long got = invoked("status", 12 + i);
            edges.must(got == refused[i], got + " refusals " + KINDS.get(i) + " are counted and not " + refused[i] + behind());
        }
    }

    private void looksAsItsTwin() {
        String seen = picture() + " shelves" + shelves();
        // What image() keeps is seen only by back().
        boolean hasRoom = calls < MOST_CALLS - 170;
        String kept = hasRoom ? invoked("back") + picture() : "";
        int callsMade = calls;
        x = new EachBookOnce();
        for (Object[] change : changes) {
            invoked((String) change[0], (Object[]) change[1]);
        }
        String twin = picture() + " shelves" + shelves();
        String keptByTwin = hasRoom ? invoked("back") + picture() : "";
        calls = callsMade;
        edges.must(seen.equals(twin), "what should change nothing has changed\n    " + twin + "\n    into\n    " + seen + behind());
        edges.must(kept.equals(keptByTwin), "what image() kept has changed" + behind());
    }

    private String picture() {
        StringBuilder all = new StringBuilder();
        for (int what = 0; what <= 8; what++) {
            all.append(' ').append(invoked("status", what));
        }
        String[] counts = all.toString().trim().split(" ");
        int books = Integer.parseInt(counts[0]);
        int people = Integer.parseInt(counts[2]);
        for (int b = 0; b < books; b++) {
            all.append(" book");
            for (int what = 0; what <= 3; what++) {
                all.append(' ').append(invoked("bookOf", b, what));
            }
        }
        for (int p = 0; p < people; p++) {
            all.append(" one");
            for (int what = 0; what <= 4; what++) {
                all.append(' ').append(invoked("oneOf", p, what));
            }
            for (int b = 0; b < books; b++) {
                all.append(' ').append(invoked("known", p, b));
            }
        }
        return all.toString();
    }

    private String shelves() {
        StringBuilder all = new StringBuilder();
        for (int s = 0; s < 8; s++) {
            long held = invoked("holds", s);
            all.append(' ').append(held);
            if (held >= 10) {
                all.append(' ').append(invoked("says", s, 0));
            }
            // Rows are mostly short; a look at each of forty places would cost too many calls.
            for (int i = 0; i < 8 && held >= 0 && held < 10; i++) {
                all.append(' ').append(invoked("element", s, i));
            }
        }
        return all.toString();
    }
}
