import java.lang.reflect.InvocationTargetException;
import java.lang.reflect.Method;
import java.nio.charset.StandardCharsets;

/**
 * Runs texts of calls, each with the answer that is due. A line is a call's name, its arguments, '=' and the
 * answer (a number, or a finding's name). A line 'tape ..' feeds the rest of the line; a line that begins with #
 * is a comment.
 */
final class Script {
    private final String name;
    private int wrong = 0;
    private int rows = 0;

    Script(String name) {
        this.name = name;
    }

    /** Runs a text on a new object. */
    void run(String title, String text) {
        HornRocks one = new HornRocks();
        for (String line : text.split("\n")) {
            String row = line.strip();
            if (row.startsWith("tape ")) {
                feedText(one, row.substring("tape ".length()));
            } else if (!row.isEmpty() && !row.startsWith("#")) {
                runRow(one, title, row);
            }
        }
    }

    void due(String title, String call, long got, long want) {
        rows++;
        if (got != want) {
            wrong++;
            System.out.println(name + ", " + title + ": " + call + " answered " + got + ", due is " + want);
        }
    }

    /** Tells how it went, and ends with exit code 1 if an answer was wrong. */
    void end() {
        System.out.println(wrong == 0 ? rows + " answers are as due" : wrong + " answers are not as due");
        if (wrong != 0 || rows == 0) {
            System.exit(1);
        }
    }

    /** Feeds a text, its last bytes alone where they don't fill four. */
    static void feedText(HornRocks one, String text) {
        byte[] bytes = text.getBytes(StandardCharsets.ISO_8859_1);
        for (int from = 0; from < bytes.length; from += 4) {
            int n = Math.min(4, bytes.length - from);
            int number = 0;
            for (int i = 0; i < n; i++) {
                number = number << 8 | bytes[from + i] & 255;
            }
            one.feed(number, n);
        }
    }

    private void runRow(HornRocks one, String title, String row) {
        String[] sides = row.split("=");
        String[] words = sides[0].strip().split(" +");
        due(title, sides[0].strip(), call(one, words), answer(sides[1].strip()));
    }

    private static long call(HornRocks one, String[] words) {
        for (Method method : HornRocks.class.getDeclaredMethods()) {
            if (method.getName().equals(words[0])) {
                return invoke(one, method, words);
            }
        }
        throw new IllegalArgumentException("no call " + words[0]);
    }

    private static long invoke(HornRocks one, Method method, String[] words) {
        Class<?>[] types = method.getParameterTypes();
        if (types.length != words.length - 1) {
            throw new IllegalArgumentException(words[0] + " takes " + types.length);
        }
        Object[] arguments = new Object[types.length];
        for (int i = 0; i < types.length; i++) {
            arguments[i] = types[i] == long.class ? (Object) Long.valueOf(words[i + 1]) : Integer.valueOf(words[i + 1]);
        }
        try {
            return ((Number) method.invoke(one, arguments)).longValue();
        } catch (IllegalAccessException | InvocationTargetException e) {
            throw new IllegalStateException(words[0] + " failed", e);
        }
    }

    private static long answer(String word) {
        switch (word) {
            case "BEYOND": return -1000000001L;
            case "FULL": return -1000000002L;
            case "KIND": return -1000000003L;
            case "NONE": return -1000000004L;
            case "STATE": return -1000000005L;
            case "MISSING": return -1000000006L;
            case "SIZE": return -1000000007L;
            default: return Long.parseLong(word);
        }
    }
}
