import java.lang.reflect.InvocationTargetException;
import java.lang.reflect.Method;
import java.nio.charset.StandardCharsets;
import java.util.ArrayList;
import java.util.List;
import java.util.Set;

/**
 * Runs texts of calls, each with the answer that is due. A line is a call's name, its arguments, '=' and the
 * answer (a number, or a finding's name); without '=' it may answer anything. A line 'tape ..' feeds the rest of the
 * line; a line 'times n ..' makes a call n times; a line that begins with # is a comment.
 *
 * Each refused call, and each call that only tells, is made once more on one of two objects of the same past, which
 * must look the same then, but for the finding that status() counts.
 */
final class Script {
    private static final List<String> FINDINGS =
            List.of("BEYOND", "FULL", "KIND", "NONE", "STATE", "MISSING", "SIZE");
    private static final long FIRST_FINDING = -1000000001L;
    private static final Set<String> TELLING = Set.of("now", "of", "as", "sounds", "loudest", "on", "moved", "strikes",
            "home", "comes", "ear", "begin", "silence", "kind", "horn", "fewest", "read", "count", "status");

    private final String name;
    private int wrong = 0;
    private int rows = 0;

    Script(String name) {
        this.name = name;
    }

    /** Runs a text on a new object. */
    void run(String title, String text) {
        HornRocks one = new HornRocks();
        List<String> past = new ArrayList<>();
        for (String row : rowsOf(text)) {
            long got = make(one, row);
            String[] sides = row.split("=");
            if (sides.length == 2) {
                String told = sides[1].strip();
                due(title, sides[0].strip(), got, answer(told));
                if (FINDINGS.contains(told) || TELLING.contains(row.split(" ")[0])) {
                    changesNothing(title, past, row, FINDINGS.indexOf(told));
                }
            }
            past.add(row);
        }
    }

    /**
     * An argument, told by ?, may be from the least to the most and is BEYOND outside: the last and the first on
     * either side, and the ends of int. With a most below the least there is none that may be.
     */
    void range(String past, String call, int least, int most) {
        outside(past, call, "BEYOND", Integer.MIN_VALUE, least - 1, most + 1, Integer.MAX_VALUE);
        if (least <= most) {
            inside(past, call, least, most);
        }
    }

    /** With each of the values for ? the call is refused so. */
    void outside(String past, String call, String finding, int... values) {
        for (int value : values) {
            String row = call.replace("?", Integer.toString(value)) + " = " + finding;
            run(past.isBlank() ? "a new object" : "behind " + past.lines().count() + " calls", past + "\n" + row);
        }
    }

    /** With each of the values for ? the call is not BEYOND. */
    void inside(String past, String call, int... values) {
        for (int value : values) {
            HornRocks one = replay(rowsOf(past));
            int counted = one.status(0);
            String row = call.replace("?", Integer.toString(value));
            make(one, row);
            due("allowed", row + ", then how many more are BEYOND", one.status(0) - counted, 0);
        }
    }

    /** Behind the same past two calls come to the same, but for what they answer. */
    void sameAfter(String past, String call, String other) {
        HornRocks one = replay(rowsOf(past));
        HornRocks two = replay(rowsOf(past));
        make(one, call);
        make(two, other);
        compare(call + " as " + other, one, two, -1);
    }

    void due(String title, String call, long got, long want) {
        rows++;
        if (got != want) {
            wrong++;
            System.out.println(name + ", " + title + ": " + call + " answered " + got + ", due is " + want);
        }
    }

    /** Tells how it went, and ends with exit code 1 if an answer was wrong. */
    void end() {
        System.out.println(wrong == 0 ? rows + " answers are as due" : wrong + " answers are not as due");
        if (wrong != 0 || rows == 0) {
            System.exit(1);
        }
    }

    /** Feeds a text, its last bytes alone where they don't fill four. */
    static void feedText(HornRocks one, String text) {
        byte[] bytes = text.getBytes(StandardCharsets.ISO_8859_1);
        for (int from = 0; from < bytes.length; from += 4) {
            int n = Math.min(4, bytes.length - from);
            int number = 0;
            for (int i = 0; i < n; i++) {
                number = number << 8 | bytes[from + i] & 255;
            }
            one.feed(number, n);
        }
    }

    private void changesNothing(String title, List<String> past, String row, int finding) {
        HornRocks called = replay(past);
        HornRocks spared = replay(past);
        make(called, row);
        compare(title + ": nothing changes by " + row, called, spared, finding);
    }

    /** All that can be seen of two objects is the same, but that the one has counted one finding more (-1: none). */
    private void compare(String title, HornRocks one, HornRocks other, int finding) {
        for (int f = 0; f < FINDINGS.size(); f++) {
            due(title, "status(" + f + ")", one.status(f), other.status(f) + (f == finding ? 1 : 0));
        }
        due(title, "status(-1)", one.status(-1), other.status(-1) + (finding < 0 ? 0 : 1));
        List<String> seen = Witness.tell(one);
        List<String> want = Witness.tell(other);
        due(title, "how much is seen", seen.size(), want.size());
        for (int i = 0; i < Math.min(seen.size(), want.size()); i++) {
            boolean same = seen.get(i).equals(want.get(i));
            due(title, seen.get(i) + ", untouched: " + want.get(i), same ? 1 : 0, 1);
        }
    }

    private static List<String> rowsOf(String text) {
        List<String> rows = new ArrayList<>();
        for (String line : text.split("\n")) {
            String row = line.strip();
            if (!row.isEmpty() && !row.startsWith("#")) {
                rows.add(row);
            }
        }
        return rows;
    }

    private static HornRocks replay(List<String> past) {
        HornRocks one = new HornRocks();
        for (String row : past) {
            make(one, row);
        }
        return one;
    }

    /** Makes the call of a row, whatever answer it tells. */
    private static long make(HornRocks one, String row) {
        if (row.startsWith("tape ")) {
            feedText(one, row.substring("tape ".length()));
            return 0;
        }
        String[] words = row.split("=")[0].strip().split(" +");
        if (!words[0].equals("times")) {
            return call(one, words);
        }
        String[] repeated = List.of(words).subList(2, words.length).toArray(new String[0]);
        for (int i = 0; i < Integer.parseInt(words[1]); i++) {
            call(one, repeated);
        }
        return 0;
    }

    private static long call(HornRocks one, String[] words) {
        for (Method method : HornRocks.class.getDeclaredMethods()) {
            if (method.getName().equals(words[0])) {
                return invoke(one, method, words);
            }
        }
        throw new IllegalArgumentException("no call " + words[0]);
    }

    private static long invoke(HornRocks one, Method method, String[] words) {
        Class<?>[] types = method.getParameterTypes();
        if (types.length != words.length - 1) {
            throw new IllegalArgumentException(words[0] + " takes " + types.length);
        }
        Object[] arguments = new Object[types.length];
        for (int i = 0; i < types.length; i++) {
            arguments[i] = types[i] == long.class ? (Object) Long.valueOf(words[i + 1]) : Integer.valueOf(words[i + 1]);
        }
        try {
            return ((Number) method.invoke(one, arguments)).longValue();
        } catch (IllegalAccessException | InvocationTargetException e) {
            throw new IllegalStateException(words[0] + " failed", e);
        }
    }

    private static long answer(String word) {
        return FINDINGS.contains(word) ? FIRST_FINDING - FINDINGS.indexOf(word) : Long.parseLong(word);
    }
}
