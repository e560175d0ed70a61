import java.io.IOException;
import java.lang.reflect.Constructor;
import java.lang.reflect.Field;
import java.lang.reflect.Method;
import java.lang.reflect.Modifier;
import java.nio.file.Files;
import java.nio.file.Path;
import java.util.ArrayList;
import java.util.Arrays;
import java.util.List;
import java.util.Map;
import java.util.Set;
import java.util.TreeMap;
import java.util.TreeSet;
import java.util.regex.Matcher;
import java.util.regex.Pattern;

/** The document's face, and those rules of LANGUAGE.md that can be seen in the source. */
public final class LanguageTest {
    private static final String FACE = "as(int,int) begin(int) book(int) chart() comes(int) copy(int,int,int,int,int) "
            + "count(int) ear() feed(int,int) fewest(int) home() horn(int,int) image() kind(int) lays(int) "
            + "loudest(int) moved(int,int) now(int) of(int,int) on(int,int) read(int) rock(int,int) set(int,int,int) "
            + "sheet(int,int,int) ship(int,int) silence() sounds(int,int) status(int) strikes() tear() turn(int,int) "
            + "undo() watches(int) wipe() write(int,int,long)";
    private static final List<String> FORBIDDEN = List.of("\\bthrow\\b", "\\btry\\b", "\\bcatch\\b", "\\bsynchronized\\b",
            "\\bassert\\b", "->", "::", "\\bprotected\\b", "\\bpackage\\b", "Exact\\b", "\\bSystem\\.(?!arraycopy)",
            "\\bRandom\\b", "\\bThread\\b", "\\bequals\\b", "\\bhashCode\\b", "\\btoString\\b");
    private static final Set<Class<?>> CONSTANTS = Set.of(int.class, long.class, boolean.class, char.class,
            String.class, int[].class, long[].class, char[].class, byte[].class);
    private static final int MOST_FIELDS = 20;
    private static final int MOST_PARAMETERS = 7;
    private static final int LONGEST_METHOD = 60;
    private static final int LONGEST_LINE = 120;
    private static final int DEEPEST_CALLS = 8;

    private static final Script SCRIPT = new Script("LanguageTest");

    public static void main(String[] args) throws IOException {
        face();
        namesOfInnerMethods();
        limitsOf(HornRocks.class);
        for (Class<?> inner : HornRocks.class.getDeclaredClasses()) {
            limitsOf(inner);
        }
        source(Files.readString(Path.of("src/main/java/HornRocks.java")));
        SCRIPT.end();
    }

    private static void face() {
        Set<String> open = new TreeSet<>();
        for (Method method : HornRocks.class.getDeclaredMethods()) {
            if (!Modifier.isPrivate(method.getModifiers())) {
                open.add(signature(method));
                boolean answersLong = method.getName().equals("write");
                holds("result of " + method.getName(), method.getReturnType() == (answersLong ? long.class : int.class));
            }
        }
        holds("the face is " + open, String.join(" ", open).equals(FACE));
        Constructor<?>[] constructors = HornRocks.class.getDeclaredConstructors();
        holds("one public constructor", constructors.length == 1 && constructors[0].getParameterCount() == 0
                && Modifier.isPublic(constructors[0].getModifiers()));
        holds("public and final", HornRocks.class.getModifiers() == (Modifier.PUBLIC | Modifier.FINAL));
        holds("private fields", Arrays.stream(HornRocks.class.getDeclaredFields())
                .allMatch(field -> Modifier.isPrivate(field.getModifiers())));
    }

    private static String signature(Method method) {
        StringBuilder told = new StringBuilder(method.getName()).append('(');
        for (Class<?> type : method.getParameterTypes()) {
            told.append(told.charAt(told.length() - 1) == '(' ? "" : ",").append(type.getName());
        }
        return told.append(')').toString();
    }

    /** Rule 1: no other method bears the name of a public one. */
    private static void namesOfInnerMethods() {
        Set<String> names = new TreeSet<>();
        for (Method method : HornRocks.class.getDeclaredMethods()) {
            holds("twice: " + method.getName(), names.add(method.getName()));
        }
        for (Class<?> inner : HornRocks.class.getDeclaredClasses()) {
            holds("static: " + inner, Modifier.isStatic(inner.getModifiers()));
            for (Method method : inner.getDeclaredMethods()) {
                holds("inner method " + method.getName(), !FACE.matches("(.* )?" + method.getName() + "\\(.*"));
            }
        }
        holds("few classes", HornRocks.class.getDeclaredClasses().length <= 11);
    }

    /** Rules 5 and 11: static fields are constants, fields some twenty at most, parameters seven. */
    private static void limitsOf(Class<?> one) {
        int fields = 0;
        for (Field field : one.getDeclaredFields()) {
            boolean isStatic = Modifier.isStatic(field.getModifiers());
            fields += isStatic ? 0 : 1;
            holds("constant " + field, !isStatic || Modifier.isFinal(field.getModifiers())
                    && CONSTANTS.contains(field.getType()));
        }
        holds("few fields of " + one, fields <= MOST_FIELDS);
        for (Method method : one.getDeclaredMethods()) {
            holds("few parameters of " + method, method.getParameterCount() <= MOST_PARAMETERS);
        }
    }

    private static void source(String text) {
        String code = text.replaceAll("/\\*(?s:.*?)\\*/", "").replaceAll("//.*", "");
        for (String word : FORBIDDEN) {
            Matcher m = Pattern.compile(word).matcher(code);
            holds("no " + word, !m.find());
        }
        Matcher imports = Pattern.compile("import (.*);").matcher(code);
        while (imports.find()) {
            holds("import " + imports.group(1), imports.group(1).equals("java.util.Arrays"));
        }
        lines(text.split("\n"));
        Map<String, String> bodies = bodies(code);
        holds("bodies of all methods", bodies.size() > HornRocks.class.getDeclaredMethods().length);
        for (String name : bodies.keySet()) {
            int depth = depth(bodies, name, List.of());
            holds(name + " goes " + depth + " deep", depth <= DEEPEST_CALLS);
        }
    }

    /** The body of each method, by its name alone: those of the same name in several classes are taken together. */
    private static Map<String, String> bodies(String code) {
        Map<String, String> bodies = new TreeMap<>();
        Matcher heads = Pattern.compile("(?m)^( {4}| {8})(?:[a-zA-Z\\[\\]]+ )+(\\w+)\\([^()]*\\) \\{$").matcher(code);
        while (heads.find()) {
            int end = code.indexOf("\n" + heads.group(1) + "}", heads.end());
            bodies.merge(heads.group(2), code.substring(heads.end(), end), String::concat);
        }
        return bodies;
    }

    /** Rule 11: how deep the calls from a method go, itself counted. One open already is counted, not followed. */
    private static int depth(Map<String, String> bodies, String name, List<String> open) {
        if (open.contains(name)) {
            return 1;
        }
        List<String> nowOpen = new ArrayList<>(open);
        nowOpen.add(name);
        int deepest = 0;
        Matcher calls = Pattern.compile("(\\w+)\\(").matcher(bodies.get(name));
        while (calls.find()) {
            if (bodies.containsKey(calls.group(1))) {
                deepest = Math.max(deepest, depth(bodies, calls.group(1), nowOpen));
            }
        }
        return deepest + 1;
    }

    private static void lines(String[] lines) {
        int begun = 0;
        int number = 0;
        String head = "";
        for (String line : lines) {
            number++;
            holds("short line " + number, line.length() <= LONGEST_LINE);
            if (line.matches("( {4}| {8})(?!for|if|while|switch)[A-Za-z].*\\) \\{")) {
                begun = number;
                head = line;
            }
            if (line.matches(".*= new .*")) {
                // What calls make is counted in one room for a whole run: only constructors make anything.
                holds("nothing made at line " + number, head.matches(" *(public )?[A-Z]\\w*\\(.*"));
            }
            if (line.strip().equals("}") && line.length() - 1 == head.length() - head.stripLeading().length()) {
                holds("short method at line " + begun, number - begun <= LONGEST_METHOD);
                head = "";
            }
        }
    }

    private static void holds(String what, boolean held) {
        SCRIPT.due("rules", what, held ? 1 : 0, 1);
    }
}
