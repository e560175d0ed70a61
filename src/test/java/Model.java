import java.util.ArrayList;
import java.util.Arrays;
import java.util.List;
import java.util.function.Consumer;
import java.util.function.ToIntFunction;
import java.util.regex.Matcher;
import java.util.regex.Pattern;

/**
 * The document once more, told in another way (kinds as classes, charts copied whole, the text by patterns), to be
 * held against HornRocks call by call.
 */
final class Model {
    static final int BEYOND = -1000000001;
    static final int FULL = -1000000002;
    static final int KIND = -1000000003;
    static final int NONE = -1000000004;
    static final int STATE = -1000000005;
    static final int MISSING = -1000000006;
    static final int SIZE = -1000000007;

    static class Rock implements Cloneable {
        int square;
        int horn = 20;
        int sweet = 5;
        boolean silent;

        int far(int there) {
            return Math.abs(square / 8 - there / 8) + Math.abs(square % 8 - there % 8);
        }

        int loud(int f, int w) {
            return horn / (1 + f);
        }

        int lure(int f) {
            return sweet;
        }

        boolean wrecks(int w) {
            return true;
        }

        final int sounds(int there, int w) {
            return silent ? 0 : loud(far(there), w);
        }

        final int lures(int there) {
            return silent ? 0 : lure(far(there));
        }

        final Rock copy() {
            try {
                return (Rock) clone();
            } catch (CloneNotSupportedException e) {
                throw new IllegalStateException(e);
            }
        }
    }

    static class Granite extends Rock {
        @Override int loud(int f, int w) {
            return super.loud(f, w) + (f <= 3 ? sweet : 0);
        }

        @Override int lure(int f) {
            return super.lure(f) + 3;
        }
    }

    static class Bar extends Rock {
        @Override int loud(int f, int w) {
            return w % 2 == 1 ? 0 : super.loud(f, w);
        }

        @Override int lure(int f) {
            return Math.max(0, super.lure(f) - f);
        }

        @Override boolean wrecks(int w) {
            return w % 3 != 2;
        }
    }

    static class Buoy extends Rock {
        @Override int loud(int f, int w) {
            return horn;
        }

        @Override int lure(int f) {
            return 0;
        }

        @Override boolean wrecks(int w) {
            return false;
        }
    }

    static class Maid extends Granite {
        @Override int loud(int f, int w) {
            return (w % 4 == 0 ? 2 : 1) * super.loud(f, w);
        }

        @Override int lure(int f) {
            return super.lure(f) + horn / 10;
        }
    }

    static class Shoal extends Bar {
        @Override int loud(int f, int w) {
            return Math.max(0, super.loud(f, w) - f);
        }

        @Override int lure(int f) {
            return super.lure(f) + 1;
        }
    }

    private static final List<Class<? extends Rock>> CLASSES =
            List.of(Rock.class, Granite.class, Bar.class, Buoy.class, Maid.class, Shoal.class);
    private static final List<String> NAMES = List.of("rock", "granite", "bar", "buoy", "maid", "shoal");

    static Rock newRock(int kind) {
        switch (kind) {
            case 0: return new Rock();
            case 1: return new Granite();
            case 2: return new Bar();
            case 3: return new Buoy();
            case 4: return new Maid();
            default: return new Shoal();
        }
    }

    static Rock turned(Rock rock, int kind) {
        Rock other = newRock(kind);
        other.square = rock.square;
        other.horn = rock.horn;
        other.sweet = rock.sweet;
        other.silent = rock.silent;
        return other;
    }

    static final class Chart {
        int watch;
        int square;
        int ear = 5;
        int heart;
        boolean struck;
        boolean home;
        List<Rock> rocks = new ArrayList<>();

        Chart copy() {
            Chart c = new Chart();
            c.watch = watch;
            c.square = square;
            c.ear = ear;
            c.heart = heart;
            c.struck = struck;
            c.home = home;
            for (Rock rock : rocks) {
                c.rocks.add(rock.copy());
            }
            return c;
        }

        int fate() {
            return struck ? 1 : home ? 2 : 0;
        }

        void put(int at) {
            square = at;
            struck = false;
            home = at == 63;
        }

        boolean hears(Rock rock) {
            return rock.sounds(square, watch) + ear >= 10;
        }

        int weight(Rock rock) {
            return heart == 0 ? rock.sounds(square, watch) : rock.lures(square);
        }

        int guide() {
            if (struck || home) {
                return -1;
            }
            int guide = -1;
            for (int r = rocks.size() - 1; r >= 0; r--) {
                Rock rock = rocks.get(r);
                if (hears(rock) && (guide < 0 || weight(rock) >= weight(rocks.get(guide)))) {
                    guide = r;
                }
            }
            return guide;
        }

        void sail() {
            int guide = guide();
            if (guide < 0) {
                square += square % 8 == 7 ? 8 : 1;
            } else {
                List<Integer> open = new ArrayList<>();
                int row = square / 8;
                int column = square % 8;
                int[][] ways = {{row - 1, column}, {row, column + 1}, {row + 1, column}, {row, column - 1}};
                for (int[] way : ways) {
                    if (Math.min(way[0], way[1]) >= 0 && Math.max(way[0], way[1]) <= 7) {
                        open.add(way[0] * 8 + way[1]);
                    }
                }
                Rock rock = rocks.get(guide);
                ToIntFunction<Integer> cost = s -> heart == 0 ? -rock.far(s) : rock.far(s);
                int least = open.stream().mapToInt(cost).min().getAsInt();
                square = open.stream().filter(s -> cost.applyAsInt(s) == least).findFirst().get();
            }
            struck = rocks.stream().anyMatch(rock -> rock.square == square && rock.wrecks(watch));
            home = !struck && square == 63;
        }

        Chart go(int n) {
            for (int i = 0; i < n; i++) {
                if (!struck && !home) {
                    sail();
                }
                for (Rock rock : rocks) {
                    if (rock instanceof Bar && !rock.silent && watch % 6 == 5 && rock.square % 8 != 0) {
                        rock.square--;
                    }
                }
                watch++;
            }
            return this;
        }
    }

    private static final class Sheet {
        int bits;
        long[] numbers;

        long cut(long v) {
            return bits == 64 ? v : v << 64 - bits >> 64 - bits;
        }
    }

    private Chart chart = new Chart();
    private Chart kept = null;
    private final StringBuilder tape = new StringBuilder();
    private final Sheet[] sheets = new Sheet[4];
    private final int[] tally = new int[7];

    /** Answers a call, and counts a finding (told by whether it was one, not by the number: a sheet may hold any). */
    long call(String name, long[] a) {
        Finding finding = new Finding();
        long answer = answer(name, a, finding);
        if (finding.found != 0) {
            tally[BEYOND - finding.found]++;
            return finding.found;
        }
        return answer;
    }

    private static final class Finding {
        int found;

        /** Whether a finding is met now, the first one being the one that counts. */
        boolean when(boolean met, int finding) {
            if (met && found == 0) {
                found = finding;
            }
            return found != 0;
        }
    }

    private long answer(String name, long[] a, Finding f) {
        switch (name) {
            case "ship": case "now": case "count": case "status": case "image": case "undo": case "tear":
                return answerState(name, a, f);
            case "rock": case "of": case "set": case "turn": case "as": case "sounds": case "loudest":
                return answerRock(name, a, f);
            case "watches": case "on": case "moved": case "strikes": case "home": case "comes":
                return answerWatch(name, a, f);
            case "ear": case "begin": case "silence": case "kind": case "horn": case "fewest":
                return answerBest(name, a, f);
            case "feed": case "wipe": case "chart":
                return answerText(name, a, f);
            default:
                return answerSheet(name, a, f);
        }
    }

    private static boolean out(long v, int least, int most) {
        return v < least || v > most;
    }

    private boolean noRock(long rock) {
        return out(rock, 0, chart.rocks.size() - 1);
    }

    private long answerState(String name, long[] a, Finding f) {
        int what = a.length > 0 ? (int) a[0] : 0;
        switch (name) {
            case "ship": {
                if (f.when(out(what, 0, 2) || out(a[1], 0, what == 0 ? 63 : what == 1 ? 9 : 1), BEYOND)) {
                    return 0;
                }
                int was = what == 0 ? chart.square : what == 1 ? chart.ear : chart.heart;
                if (what == 0) {
                    chart.put((int) a[1]);
                } else if (what == 1) {
                    chart.ear = (int) a[1];
                } else {
                    chart.heart = (int) a[1];
                }
                return was;
            }
            case "now": {
                if (f.when(out(what, 0, 6), BEYOND)) {
                    return 0;
                }
                int heard = 0;
                for (int r = 0; r < chart.rocks.size(); r++) {
                    heard += chart.hears(chart.rocks.get(r)) ? 1 << r : 0;
                }
                return new int[] {chart.watch, chart.square, chart.ear, chart.heart, chart.fate(), heard,
                    chart.guide()}[what];
            }
            case "count": {
                if (f.when(out(what, 0, 3), BEYOND)) {
                    return 0;
                }
                return new long[] {chart.rocks.size(), tape.length(),
                    chart.rocks.stream().filter(rock -> rock.silent).count(),
                    chart.rocks.stream().mapToInt(rock -> rock.horn).sum()}[what];
            }
            case "status":
                if (f.when(out(what, -1, 6), BEYOND)) {
                    return 0;
                }
                return what < 0 ? Arrays.stream(tally).sum() : tally[what];
            case "image":
                kept = chart.copy();
                return 1;
            case "undo":
                if (f.when(kept == null, NONE)) {
                    return 0;
                }
                chart = kept.copy();
                return chart.rocks.size();
            default: {
                int had = kept == null ? 0 : 1;
                kept = null;
                return had;
            }
        }
    }

    private long answerRock(String name, long[] a, Finding f) {
        if (name.equals("rock")) {
            if (f.when(out(a[0], 0, 5) || out(a[1], 0, 63), BEYOND) || f.when(chart.rocks.size() == 8, FULL)) {
                return 0;
            }
            Rock rock = newRock((int) a[0]);
            rock.square = (int) a[1];
            chart.rocks.add(rock);
            return chart.rocks.size() - 1;
        }
        if (name.equals("loudest")) {
            if (f.when(out(a[0], 0, 63), BEYOND) || f.when(chart.rocks.isEmpty(), NONE)) {
                return 0;
            }
            ToIntFunction<Rock> sound = rock -> rock.sounds((int) a[0], chart.watch);
            int most = chart.rocks.stream().mapToInt(sound).max().getAsInt();
            int r = 0;
            while (sound.applyAsInt(chart.rocks.get(r)) != most) {
                r++;
            }
            return r;
        }
        if (f.when(noRock(a[0]), BEYOND)) {
            return 0;
        }
        int number = (int) a[0];
        Rock rock = chart.rocks.get(number);
        switch (name) {
            case "of":
                if (f.when(out(a[1], 0, 8), BEYOND)) {
                    return 0;
                }
                return new int[] {CLASSES.indexOf(rock.getClass()), rock.square, rock.horn, rock.sweet,
                    rock.silent ? 1 : 0, rock.far(chart.square), rock.sounds(chart.square, chart.watch),
                    rock.lures(chart.square), rock.wrecks(chart.watch) ? 1 : 0}[(int) a[1]];
            case "set":
                return set(rock, (int) a[1], a[2], f);
            case "turn":
                if (f.when(out(a[1], 0, 5), BEYOND)) {
                    return 0;
                }
                chart.rocks.set(number, turned(rock, (int) a[1]));
                return CLASSES.indexOf(rock.getClass());
            case "as":
                if (f.when(out(a[1], 0, 5), BEYOND)
                        || f.when(!CLASSES.get((int) a[1]).isInstance(rock), KIND)) {
                    return 0;
                }
                return rock.horn;
            default:
                return f.when(out(a[1], 0, 63), BEYOND) ? 0 : rock.sounds((int) a[1], chart.watch);
        }
    }

    private static long set(Rock rock, int what, long v, Finding f) {
        if (f.when(out(what, 1, 4), BEYOND) || f.when(out(v, 0, new int[] {0, 63, 99, 9, 1}[what]), BEYOND)) {
            return 0;
        }
        int was = new int[] {0, rock.square, rock.horn, rock.sweet, rock.silent ? 1 : 0}[what];
        switch (what) {
            case 1: rock.square = (int) v; break;
            case 2: rock.horn = (int) v; break;
            case 3: rock.sweet = (int) v; break;
            default: rock.silent = v == 1;
        }
        return was;
    }

    private long answerWatch(String name, long[] a, Finding f) {
        switch (name) {
            case "watches":
                if (f.when(out(a[0], 1, 100), BEYOND) || f.when(chart.watch + a[0] > 99999, STATE)) {
                    return 0;
                }
                return chart.go((int) a[0]).square;
            case "on":
                if (f.when(out(a[0], 0, 200) || out(a[1], 0, 1), BEYOND)) {
                    return 0;
                }
                return a[1] == 0 ? chart.copy().go((int) a[0]).square : chart.copy().go((int) a[0]).fate();
            case "moved":
                if (f.when(noRock(a[0]) || out(a[1], 0, 200), BEYOND)) {
                    return 0;
                }
                return chart.copy().go((int) a[1]).rocks.get((int) a[0]).square;
            default:
                break;
        }
        if (name.equals("comes") && f.when(out(a[0], 0, 63), BEYOND)) {
            return 0;
        }
        Chart c = chart.copy();
        for (int n = 0; n <= 200; n++) {
            if (name.equals("strikes") ? c.struck : name.equals("home") ? c.home : c.square == a[0]) {
                return n;
            }
            c.go(1);
        }
        f.when(true, NONE);
        return 0;
    }

    /** In how many watches a changed chart is home; 1000, if not within so many. */
    private int toHome(int within, Consumer<Chart> change) {
        Chart c = chart.copy();
        change.accept(c);
        for (int n = 0; n <= within; n++) {
            if (c.home) {
                return n;
            }
            c.go(1);
        }
        return 1000;
    }

    /** The first place of the least number; NONE, if it is not below a bound. */
    private static long firstLeast(int[] needed, int bound, Finding f) {
        int least = Arrays.stream(needed).min().orElse(1000);
        if (f.when(least >= bound, NONE)) {
            return 0;
        }
        int i = 0;
        while (needed[i] != least) {
            i++;
        }
        return i;
    }

    private long answerBest(String name, long[] a, Finding f) {
        switch (name) {
            case "ear": {
                int[] needed = new int[10];
                for (int e = 0; e < 10; e++) {
                    int ear = e;
                    needed[e] = toHome(200, c -> c.ear = ear);
                }
                return firstLeast(needed, 1000, f);
            }
            case "begin": {
                if (f.when(out(a[0], 0, 7), BEYOND)) {
                    return 0;
                }
                int[] needed = new int[8];
                for (int column = 0; column < 8; column++) {
                    int square = (int) a[0] * 8 + column;
                    needed[column] = toHome(100, c -> c.put(square));
                }
                return a[0] * 8 + firstLeast(needed, 1000, f);
            }
            case "silence": {
                int[] needed = new int[chart.rocks.size()];
                for (int r = 0; r < needed.length; r++) {
                    int rock = r;
                    needed[r] = chart.rocks.get(r).silent ? 1000 : toHome(200, c -> c.rocks.get(rock).silent = true);
                }
                return firstLeast(needed, toHome(200, c -> { }), f);
            }
            case "kind": {
                if (f.when(noRock(a[0]), BEYOND)) {
                    return 0;
                }
                int rock = (int) a[0];
                int[] needed = new int[6];
                for (int k = 0; k < 6; k++) {
                    int kind = k;
                    needed[k] = toHome(200, c -> c.rocks.set(rock, turned(c.rocks.get(rock), kind)));
                }
                return firstLeast(needed, 1000, f);
            }
            case "horn": {
                if (f.when(noRock(a[0]) || out(a[1], 1, 100), BEYOND)) {
                    return 0;
                }
                int greatest = -1;
                for (int h = 0; h <= 99; h++) {
                    int horn = h;
                    if (toHome((int) a[1], c -> c.rocks.get((int) a[0]).horn = horn) <= a[1]) {
                        greatest = h;
                    }
                }
                f.when(greatest < 0, NONE);
                return greatest;
            }
            default:
                return f.when(out(a[0], 1, 40), BEYOND) ? 0 : fewest((int) a[0], f);
        }
    }

    private long fewest(int n, Finding f) {
        for (int size = 0; size <= chart.rocks.size(); size++) {
            for (int set = 0; set < 1 << chart.rocks.size(); set++) {
                Chart c = chart.copy();
                for (int r = 0; r < c.rocks.size(); r++) {
                    if ((set & 1 << r) != 0) {
                        c.rocks.get(r).silent = true;
                    }
                }
                if (Integer.bitCount(set) == size && !c.go(n).struck) {
                    return set;
                }
            }
        }
        f.when(true, NONE);
        return 0;
    }

    private long answerText(String name, long[] a, Finding f) {
        if (name.equals("feed")) {
            if (f.when(out(a[1], 1, 4), BEYOND) || f.when(tape.length() + a[1] > 120, FULL)) {
                return 0;
            }
            for (int i = (int) a[1] - 1; i >= 0; i--) {
                tape.append((char) (a[0] >>> 8 * i & 255));
            }
            return tape.length();
        }
        String text = tape.toString();
        tape.setLength(0);
        return name.equals("wipe") ? text.length() : readText(text);
    }

    private static final Pattern TOKEN = Pattern.compile(" *(?:([a-z]+)|([0-9]+)|(;)|(\\z)|(.))", Pattern.DOTALL);

    /** A state machine over the tokens: what may come next is a list of words. */
    private long readText(String text) {
        Chart c = chart.copy();
        Matcher m = TOKEN.matcher(text);
        String next = "item";
        int items = 0;
        int at = 0;
        Rock rock = null;
        int kind = 0;
        while (true) {
            m.region(at, text.length());
            m.lookingAt();
            at = m.end();
            int place = Math.max(Math.max(m.start(1), m.start(2)), Math.max(m.start(3), Math.max(m.start(4), m.start(5))));
            String word = m.group(1) != null ? m.group(1) : "";
            int value = m.group(2) == null ? -1 : m.group(2).replaceFirst("^0+(?=.)", "").length() > 3 ? 1000
                    : Integer.parseInt(m.group(2));
            boolean last = m.group(4) != null;
            boolean mayEnd = List.of("horn?", "sweet?", "silent?", "over", "ear?", "longing?").contains(next);
            if (last && mayEnd) {
                chart = c;
                return items;
            } else if (m.group(3) != null && mayEnd) {
                next = "item";
            } else if (next.equals("item") && word.equals("ship")) {
                items++;
                next = "shipsquare";
            } else if (next.equals("item") && NAMES.contains(word) && c.rocks.size() < 8) {
                items++;
                kind = NAMES.indexOf(word);
                next = "at";
            } else if (next.equals("at") && word.equals("at")) {
                next = "square";
            } else if (next.equals("square") && !out(value, 0, 63)) {
                rock = newRock(kind);
                rock.square = value;
                c.rocks.add(rock);
                next = "horn?";
            } else if (next.equals("horn?") && word.equals("horn")) {
                next = "horn";
            } else if (next.equals("horn") && !out(value, 0, 99)) {
                rock.horn = value;
                next = "sweet?";
            } else if (List.of("horn?", "sweet?").contains(next) && word.equals("sweet")) {
                next = "sweet";
            } else if (next.equals("sweet") && !out(value, 0, 9)) {
                rock.sweet = value;
                next = "silent?";
            } else if (List.of("horn?", "sweet?", "silent?").contains(next) && word.equals("silent")) {
                rock.silent = true;
                next = "over";
            } else if (next.equals("shipsquare") && !out(value, 0, 63)) {
                c.put(value);
                c.heart = 0;
                next = "ear?";
            } else if (next.equals("ear?") && word.equals("ear")) {
                next = "ear";
            } else if (next.equals("ear") && !out(value, 0, 9)) {
                c.ear = value;
                next = "longing?";
            } else if (List.of("ear?", "longing?").contains(next) && word.equals("longing")) {
                c.heart = 1;
                next = "over";
            } else {
                return -1 - place;
            }
        }
    }

    private long answerSheet(String name, long[] a, Finding f) {
        if (f.when(out(a[0], 0, 3) || name.equals("copy") && out(a[2], 0, 3), BEYOND)) {
            return 0;
        }
        if (name.equals("sheet")) {
            if (f.when(!List.of(0L, 8L, 16L, 64L).contains(a[1]), BEYOND) || f.when(a[2] < 0, SIZE)
                    || f.when(a[2] > 40, BEYOND)) {
                return 0;
            }
            Sheet made = new Sheet();
            made.bits = (int) a[1];
            made.numbers = new long[(int) a[2]];
            sheets[(int) a[0]] = a[1] == 0 ? null : made;
            return a[1] == 0 ? 0 : a[2];
        }
        Sheet one = sheets[(int) a[0]];
        Sheet other = name.equals("copy") ? sheets[(int) a[2]] : one;
        if (f.when(one == null || other == null, MISSING)) {
            return 0;
        }
        long[] numbers = one.numbers;
        switch (name) {
            case "write": {
                if (f.when(out(a[1], 0, numbers.length - 1), BEYOND)) {
                    return 0;
                }
                long was = numbers[(int) a[1]];
                numbers[(int) a[1]] = one.cut(a[2]);
                return was;
            }
            case "copy": {
                if (f.when(one.bits != other.bits, KIND) || f.when(a[1] < 0 || a[3] < 0 || a[4] < 0
                        || a[1] + a[4] > numbers.length || a[3] + a[4] > other.numbers.length, BEYOND)) {
                    return 0;
                }
                long[] were = numbers.clone();
                for (int i = 0; i < a[4]; i++) {
                    other.numbers[(int) a[3] + i] = were[(int) a[1] + i];
                }
                return a[4];
            }
            case "lays": {
                int came = 0;
                for (int i = 0; i < numbers.length; i++) {
                    if (i < chart.rocks.size() && numbers[i] >= 0 && numbers[i] < 100) {
                        chart.rocks.get(i).horn = (int) numbers[i];
                        came++;
                    }
                }
                return came;
            }
            case "book":
                Arrays.setAll(numbers, i -> chart.copy().go(i).square);
                return numbers.length;
            default: {
                int pairs = 0;
                for (int pair = 0; pair < 20; pair++) {
                    Chart c = chart.copy();
                    c.ear = pair / 2;
                    c.heart = pair % 2;
                    boolean same = true;
                    for (long number : numbers) {
                        same &= number == c.square;
                        c.go(1);
                    }
                    pairs += same ? 1 : 0;
                }
                return pairs;
            }
        }
    }
}
