import java.util.Random;
import java.util.Set;
import java.util.TreeSet;

/** Holds HornRocks against the model in long mixed runs, call by call, and the whole state at a run's end. */
public final class ModelTest {
    private static final int RUNS = 1500;
    private static final int CALLS = 90;
    /** As many calls as the document promises for one object. */
    private static final int ALL_CALLS = 512;
    private static final int LONG_RUNS = 60;
    private static final int[] ODD = {-2147483648, -1000000001, -2, -1, 64, 100, 200, 201, 2147483647};
    private static final String[] WORDS = {"rock", "granite", "bar", "buoy", "maid", "shoal", "ship", "at", "horn",
        "sweet", "silent", "ear", "longing", ";", "reef", "5", "63", "64", "9", "10", "99", "100", "0", "1000", "007"};
    private static final String[] KINDS = {"rock", "granite", "bar", "buoy", "maid", "shoal"};
    /** A call's name, and the greatest of each argument where it is an ordinary one. */
    private static final String[] CALLS_TOLD = {"ship 2 63", "ship 2 9", "ship 0 63", "ship 1 9", "ship 2 1", "now 6",
        "rock 5 63", "rock 5 63", "rock 5 63", "of 7 8", "set 7 4 99", "set 7 1 63", "set 7 2 99", "set 7 3 9",
        "set 7 4 1", "turn 7 5", "as 7 5", "sounds 7 63", "loudest 63", "watches 100", "watches 3", "watches 7",
        "on 200 1", "on 20 1", "moved 7 200", "strikes", "home", "comes 63", "ear", "begin 7", "silence", "kind 7",
        "horn 7 100", "fewest 40", "feed 2147483647 4", "wipe", "chart", "sheet 3 64 40", "write 3 39 99",
        "copy 3 39 3 39 40", "lays 3", "book 3", "read 3", "image", "undo", "tear", "count 3", "status 6"};

    private final Script script = new Script("ModelTest");
    private final Random random = new Random(20261118);
    private final Set<String> seen = new TreeSet<>();
    private int made = 0;

    public static void main(String[] args) {
        ModelTest test = new ModelTest();
        for (int run = 0; run < RUNS; run++) {
            test.run(run);
        }
        for (int run = 0; run < LONG_RUNS; run++) {
            test.longRun(run);
        }
        test.needSeen();
        test.script.end();
    }

    private void run(int run) {
        HornRocks real = new HornRocks();
        Model model = new Model();
        String title = "run " + run;
        if (random.nextBoolean()) {
            int rocks = random.nextInt(9);
            for (int r = 0; r < rocks; r++) {
                same(real, model, title, "rock", new long[] {random.nextInt(6), random.nextInt(64)});
            }
        }
        for (int i = 0; i < CALLS; i++) {
            if (random.nextInt(12) == 0) {
                tellText(real, model, title);
            } else {
                anyCall(real, model, title);
            }
        }
        compareAll(real, model, title);
    }

    /** All calls that an object is promised for, each held against the model to the last. */
    private void longRun(int run) {
        HornRocks real = new HornRocks();
        Model model = new Model();
        String title = "long run " + run;
        made = 0;
        while (made < ALL_CALLS) {
            anyCall(real, model, title);
        }
        script.due(title, "calls made", made, ALL_CALLS);
    }

    private void anyCall(HornRocks real, Model model, String title) {
        String[] words = CALLS_TOLD[random.nextInt(CALLS_TOLD.length)].split(" ");
        same(real, model, title, words[0], arguments(words));
    }

    private long[] arguments(String[] words) {
        long[] a = new long[words.length - 1];
        for (int i = 0; i < a.length; i++) {
            int most = Integer.parseInt(words[i + 1]);
            a[i] = random.nextInt(40) == 0 ? ODD[random.nextInt(ODD.length)] : random.nextInt(Math.max(most, most + 1));
        }
        if (words[0].equals("sheet")) {
            a[1] = random.nextInt(20) == 0 ? a[1] : new int[] {0, 8, 8, 16, 64}[random.nextInt(5)];
        }
        if (words[0].equals("write")) {
            a[2] = random.nextInt(3) == 0 ? random.nextLong() : random.nextInt(400) - 200;
        }
        if (words[0].equals("copy")) {
            a[4] = random.nextInt(3) == 0 ? a[4] : random.nextInt(5);
        }
        if (words[0].equals("feed") && random.nextInt(4) != 0) {
            a[0] = random.nextInt();
        }
        return a;
    }

    private void tellText(HornRocks real, Model model, String title) {
        String text = random.nextInt(3) == 0 ? strangeText() : soundText();
        if (random.nextInt(4) != 0) {
            same(real, model, title, "wipe", new long[0]);
        }
        for (int from = 0; from < text.length(); from += 4) {
            int n = Math.min(4, text.length() - from);
            long number = 0;
            for (int i = 0; i < n; i++) {
                number = number << 8 | text.charAt(from + i);
            }
            same(real, model, title, "feed", new long[] {(int) number, n});
        }
        same(real, model, title, "chart", new long[0]);
    }

    private String strangeText() {
        StringBuilder text = new StringBuilder();
        int words = random.nextInt(12);
        for (int i = 0; i < words; i++) {
            text.append(WORDS[random.nextInt(WORDS.length)]).append(random.nextInt(4) == 0 ? "" : " ");
        }
        return text.toString();
    }

    /** A text without a fault but where there are too many rocks, or a byte of it was spoilt. */
    private String soundText() {
        StringBuilder text = new StringBuilder();
        int items = 1 + random.nextInt(4);
        for (int i = 0; i < items; i++) {
            text.append(i == 0 ? "" : random.nextBoolean() ? ";" : " ; ");
            if (random.nextInt(3) == 0) {
                text.append("ship ").append(random.nextInt(64)).append(random.nextBoolean() ? "" : " ear " + random.nextInt(10))
                        .append(random.nextBoolean() ? "" : " longing");
            } else {
                text.append(KINDS[random.nextInt(6)]).append(" at ").append(random.nextInt(64))
                        .append(random.nextBoolean() ? "" : " horn " + random.nextInt(100))
                        .append(random.nextBoolean() ? "" : "sweet" + random.nextInt(10))
                        .append(random.nextInt(3) > 0 ? "" : " silent");
            }
        }
        if (random.nextInt(3) == 0) {
            text.setCharAt(random.nextInt(text.length()), (char) random.nextInt(256));
        }
        return text.toString();
    }

    private void compareAll(HornRocks real, Model model, String title) {
        for (int what = 0; what < 7; what++) {
            same(real, model, title, "now", new long[] {what});
            same(real, model, title, "status", new long[] {what});
        }
        for (int rock = 0; rock < 8; rock++) {
            for (int what = 0; what < 9; what++) {
                same(real, model, title, "of", new long[] {rock, what});
            }
        }
        for (int s = 0; s < 4; s++) {
            for (int i = 0; i < 41; i++) {
                same(real, model, title, "write", new long[] {s, i, 1});
            }
        }
        same(real, model, title, "count", new long[] {1});
        same(real, model, title, "undo", new long[0]);
        same(real, model, title, "status", new long[] {-1});
    }

    private void same(HornRocks real, Model model, String title, String name, long[] a) {
        made++;
        StringBuilder told = new StringBuilder(name);
        for (long one : a) {
            told.append(' ').append(one);
        }
        long want = model.call(name, a);
        boolean finding = want <= -1000000001L && want >= -1000000007L;
        seen.add(name + (finding ? " " + want : ""));
        script.due(title, told.toString(), call(real, name, a), want);
    }

    /** The runs are worth little where a call never answers, or never tells one of its findings. */
    private void needSeen() {
        String[] due = {"rock -1000000002", "as -1000000003", "loudest -1000000004", "strikes", "strikes -1000000004",
            "home", "home -1000000004", "comes", "comes -1000000004", "ear", "ear -1000000004", "begin",
            "begin -1000000004", "silence", "silence -1000000004", "kind", "kind -1000000004", "horn",
            "horn -1000000004", "fewest", "fewest -1000000004", "feed -1000000002", "sheet -1000000007",
            "write -1000000006", "copy", "copy -1000000003", "copy -1000000006", "undo -1000000004"};
        for (String one : due) {
            script.due("all runs", "seen: " + one, seen.contains(one) ? 1 : 0, 1);
        }
    }

    private static long call(HornRocks x, String name, long[] a) {
        int p = a.length > 0 ? (int) a[0] : 0;
        int q = a.length > 1 ? (int) a[1] : 0;
        int r = a.length > 2 ? (int) a[2] : 0;
        switch (name) {
            case "ship": return x.ship(p, q);
            case "now": return x.now(p);
            case "rock": return x.rock(p, q);
            case "of": return x.of(p, q);
            case "set": return x.set(p, q, r);
            case "turn": return x.turn(p, q);
            case "as": return x.as(p, q);
            case "sounds": return x.sounds(p, q);
            case "loudest": return x.loudest(p);
            case "watches": return x.watches(p);
            case "on": return x.on(p, q);
            case "moved": return x.moved(p, q);
            case "strikes": return x.strikes();
            case "home": return x.home();
            case "comes": return x.comes(p);
            case "ear": return x.ear();
            case "begin": return x.begin(p);
            case "silence": return x.silence();
            case "kind": return x.kind(p);
            case "horn": return x.horn(p, q);
            case "fewest": return x.fewest(p);
            case "feed": return x.feed(p, q);
            case "wipe": return x.wipe();
            case "chart": return x.chart();
            case "sheet": return x.sheet(p, q, r);
            case "write": return x.write(p, q, a[2]);
            case "copy": return x.copy(p, q, r, (int) a[3], (int) a[4]);
            case "lays": return x.lays(p);
            case "book": return x.book(p);
            case "read": return x.read(p);
            case "image": return x.image();
            case "undo": return x.undo();
            case "tear": return x.tear();
            case "count": return x.count(p);
            case "status": return x.status(p);
            default: throw new IllegalArgumentException("no call " + name);
        }
    }
}
