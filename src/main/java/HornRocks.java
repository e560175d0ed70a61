import java.util.Arrays;

/** A bank of rocks with horns, and a ship that is steered by them. */
public final class HornRocks {
    private static final int BEYOND = 0;
    private static final int FULL = 1;
    private static final int KIND = 2;
    private static final int NONE = 3;
    private static final int STATE = 4;
    private static final int MISSING = 5;
    private static final int SIZE = 6;
    private static final int FINDINGS = 7;
    private static final int FIRST_FINDING = -1000000001;

    private static final int SQUARES = 64;
    private static final int SIDE = 8;
    private static final int LAST_SQUARE = 63;
    private static final int MOST_ROCKS = 8;
    private static final int MOST_WATCH = 99999;
    private static final int MOST_EAR = 9;
    private static final int MOST_HORN = 99;
    private static final int MOST_SWEET = 9;

    private static final int ROCK = 0;
    private static final int GRANITE = 1;
    private static final int BAR = 2;
    private static final int BUOY = 3;
    private static final int MAID = 4;
    private static final int SHOAL = 5;
    private static final int KINDS = 6;
    /** For each kind the one that it is under. */
    private static final int[] ABOVE = {-1, ROCK, ROCK, ROCK, GRANITE, BAR};

    private static final int SAILING = 0;
    private static final int STRUCK = 1;
    private static final int HOME = 2;

    private static final int AWAY = 0;
    private static final int TOWARDS = 1;

    private static final int SHIP_SQUARE = 0;
    private static final int SHIP_EAR = 1;
    /** The greatest SQUARE, EAR and HEART of the ship. */
    private static final int[] SHIP_MOST = {LAST_SQUARE, MOST_EAR, TOWARDS};

    private static final int ROCK_SQUARE = 1;
    private static final int ROCK_HORN = 2;
    private static final int ROCK_SWEET = 3;
    private static final int ROCK_SILENT = 4;
    /** The greatest SQUARE, HORN, SWEET and SILENT of a rock; its kind (0) is not set but turned. */
    private static final int[] ROCK_MOST = {-1, LAST_SQUARE, MOST_HORN, MOST_SWEET, 1};

    private static final int LOOKED_AHEAD = 200;
    private static final int LOOKED_AHEAD_TO_BEGIN = 100;
    /** Above all that a search can answer: it has found nothing. */
    private static final int NOTHING = 1000000;

    private static final int MOST_BYTES = 120;
    private static final int MOST_FED = 4;

    private static final int SHEETS = 4;
    private static final int MOST_NUMBERS = 40;

    private final Sea sea;
    /** Where watches go on trial, so that nothing changes. */
    private final Sea trial;
    private final Sea kept;
    private boolean isKept;
    private final Choice choice;
    private final Tape tape;
    private final Sheet[] sheets;
    private final int[] tally;

    public HornRocks() {
        sea = new Sea();
        trial = new Sea();
        kept = new Sea();
        isKept = false;
        choice = new Choice();
        tape = new Tape();
        sheets = new Sheet[SHEETS];
        for (int s = 0; s < SHEETS; s++) {
            sheets[s] = new Sheet();
        }
        tally = new int[FINDINGS];
    }

    // ---- the ship

    public int ship(int what, int v) {
        if (what < 0 || what >= SHIP_MOST.length || !isWithin(v, 0, SHIP_MOST[what])) {
            return found(BEYOND);
        }
        return sea.changeShip(what, v);
    }

    public int now(int what) {
        switch (what) {
            case 0: return sea.watch;
            case 1: return sea.square;
            case 2: return sea.ear;
            case 3: return sea.heart;
            case 4: return sea.fate;
            case 5: return sea.heardSet();
            case 6: return sea.fate == SAILING ? sea.guide() : -1;
            default: return found(BEYOND);
        }
    }

    // ---- rocks

    public int rock(int kind, int square) {
        if (!isKind(kind) || !isSquare(square)) {
            return found(BEYOND);
        }
        return sea.addRock(kind, square) == null ? found(FULL) : sea.size - 1;
    }

    public int of(int rock, int what) {
        if (!isRock(rock)) {
            return found(BEYOND);
        }
        Rock one = sea.rocks[rock];
        switch (what) {
            case 0: return one.kind;
            case 1: return one.square;
            case 2: return one.horn;
            case 3: return one.sweet;
            case 4: return one.silent;
            case 5: return far(one.square, sea.square);
            case 6: return one.soundAt(sea.square, sea.watch);
            case 7: return one.lureAt(sea.square);
            case 8: return one.wrecksIn(sea.watch) ? 1 : 0;
            default: return found(BEYOND);
        }
    }

    public int set(int rock, int what, int v) {
        if (!isRock(rock) || what < ROCK_SQUARE || what >= ROCK_MOST.length
                || !isWithin(v, 0, ROCK_MOST[what])) {
            return found(BEYOND);
        }
        return sea.rocks[rock].change(what, v);
    }

    public int turn(int rock, int kind) {
        if (!isRock(rock) || !isKind(kind)) {
            return found(BEYOND);
        }
        int was = sea.rocks[rock].kind;
        sea.rocks[rock].kind = kind;
        return was;
    }

    public int as(int rock, int kind) {
        if (!isRock(rock) || !isKind(kind)) {
            return found(BEYOND);
        }
        Rock one = sea.rocks[rock];
        return one.isOfKind(kind) ? one.horn : found(KIND);
    }

    public int sounds(int rock, int square) {
        if (!isRock(rock) || !isSquare(square)) {
            return found(BEYOND);
        }
        return sea.rocks[rock].soundAt(square, sea.watch);
    }

    public int loudest(int square) {
        if (!isSquare(square)) {
            return found(BEYOND);
        }
        return orNone(sea.loudestAt(square));
    }

    // ---- watches

    public int watches(int n) {
        if (!isWithin(n, 1, 100)) {
            return found(BEYOND);
        }
        if (sea.watch + n > MOST_WATCH) {
            return found(STATE);
        }
        sea.goWatches(n);
        return sea.square;
    }

    public int on(int n, int what) {
        if (!isWithin(n, 0, LOOKED_AHEAD) || !isWithin(what, 0, 1)) {
            return found(BEYOND);
        }
        tryAsItIs();
        trial.goWatches(n);
        return what == 0 ? trial.square : trial.fate;
    }

    public int moved(int rock, int n) {
        if (!isRock(rock) || !isWithin(n, 0, LOOKED_AHEAD)) {
            return found(BEYOND);
        }
        tryAsItIs();
        trial.goWatches(n);
        return trial.rocks[rock].square;
    }

    public int strikes() {
        tryAsItIs();
        return orNone(trial.watchesToFate(STRUCK, LOOKED_AHEAD));
    }

    public int home() {
        tryAsItIs();
        return orNone(trial.watchesToFate(HOME, LOOKED_AHEAD));
    }

    public int comes(int square) {
        if (!isSquare(square)) {
            return found(BEYOND);
        }
        tryAsItIs();
        return orNone(trial.watchesToSquare(square, LOOKED_AHEAD));
    }

    // ---- what is best

    public int ear() {
        choice.open(NOTHING);
        for (int e = 0; e <= MOST_EAR; e++) {
            tryAsItIs();
            trial.ear = e;
            choice.offer(e, trial.watchesToFate(HOME, LOOKED_AHEAD));
        }
        return orNone(choice.best);
    }

    public int begin(int row) {
        if (!isWithin(row, 0, SIDE - 1)) {
            return found(BEYOND);
        }
        choice.open(NOTHING);
        for (int square = row * SIDE; square < row * SIDE + SIDE; square++) {
            tryAsItIs();
            trial.placeShip(square);
            choice.offer(square, trial.watchesToFate(HOME, LOOKED_AHEAD_TO_BEGIN));
        }
        return orNone(choice.best);
    }

    public int silence() {
        tryAsItIs();
        choice.open(trial.watchesToFate(HOME, LOOKED_AHEAD));
        for (int r = 0; r < sea.size; r++) {
            if (sea.rocks[r].silent == 1) {
                continue;
            }
            tryAsItIs();
            trial.rocks[r].silent = 1;
            choice.offer(r, trial.watchesToFate(HOME, LOOKED_AHEAD));
        }
        return orNone(choice.best);
    }

    public int kind(int rock) {
        if (!isRock(rock)) {
            return found(BEYOND);
        }
        choice.open(NOTHING);
        for (int k = 0; k < KINDS; k++) {
            tryAsItIs();
            trial.rocks[rock].kind = k;
            choice.offer(k, trial.watchesToFate(HOME, LOOKED_AHEAD));
        }
        return orNone(choice.best);
    }

    public int horn(int rock, int n) {
        if (!isRock(rock) || !isWithin(n, 1, 100)) {
            return found(BEYOND);
        }
        for (int h = MOST_HORN; h >= 0; h--) {
            tryAsItIs();
            trial.rocks[rock].horn = h;
            if (trial.watchesToFate(HOME, n) <= n) {
                return h;
            }
        }
        return found(NONE);
    }

    public int fewest(int n) {
        if (!isWithin(n, 1, 40)) {
            return found(BEYOND);
        }
        int best = NOTHING;
        int fewest = MOST_ROCKS + 1;
        for (int chosen = 0; chosen < 1 << sea.size; chosen++) {
            if (Integer.bitCount(chosen) >= fewest) {
                continue;
            }
            tryAsItIs();
            trial.hush(chosen);
            if (trial.watchesToFate(STRUCK, n) == NOTHING) {
                fewest = Integer.bitCount(chosen);
                best = chosen;
            }
        }
        return orNone(best);
    }

    // ---- the text

    public int feed(int bytes, int n) {
        if (!isWithin(n, 1, MOST_FED)) {
            return found(BEYOND);
        }
        if (tape.length + n > MOST_BYTES) {
            return found(FULL);
        }
        tape.append(bytes, n);
        return tape.length;
    }

    public int wipe() {
        int had = tape.length;
        tape.length = 0;
        return had;
    }

    public int chart() {
        tryAsItIs();
        int items = tape.readChart(trial);
        if (items >= 0) {
            sea.become(trial);
        }
        tape.length = 0;
        return items;
    }

    // ---- sheets

    public int sheet(int s, int bits, int n) {
        if (!isSheet(s) || !(bits == 0 || bits == 8 || bits == 16 || bits == 64)) {
            return found(BEYOND);
        }
        if (n < 0) {
            return found(SIZE);
        }
        if (n > MOST_NUMBERS) {
            return found(BEYOND);
        }
        sheets[s].renew(bits, n);
        return sheets[s].length;
    }

    public long write(int s, int i, long v) {
        int fault = faultOfSheet(s);
        if (fault != 0) {
            return fault;
        }
        Sheet one = sheets[s];
        if (i < 0 || i >= one.length) {
            return found(BEYOND);
        }
        long was = one.numbers[i];
        one.put(i, v);
        return was;
    }

    public int copy(int s, int from, int t, int to, int n) {
        if (!isSheet(s) || !isSheet(t)) {
            return found(BEYOND);
        }
        Sheet source = sheets[s];
        Sheet target = sheets[t];
        if (source.isMissing() || target.isMissing()) {
            return found(MISSING);
        }
        if (source.bits != target.bits) {
            return found(KIND);
        }
        if (!source.hasRange(from, n) || !target.hasRange(to, n)) {
            return found(BEYOND);
        }
        System.arraycopy(source.numbers, from, target.numbers, to, n);
        return n;
    }

    public int lays(int s) {
        int fault = faultOfSheet(s);
        if (fault != 0) {
            return fault;
        }
        Sheet one = sheets[s];
        int came = 0;
        for (int i = 0; i < one.length && i < sea.size; i++) {
            long number = one.numbers[i];
            if (number >= 0 && number <= MOST_HORN) {
                sea.rocks[i].horn = (int) number;
                came++;
            }
        }
        return came;
    }

    public int book(int s) {
        int fault = faultOfSheet(s);
        if (fault != 0) {
            return fault;
        }
        Sheet one = sheets[s];
        tryAsItIs();
        for (int i = 0; i < one.length; i++) {
            one.put(i, trial.square);
            trial.goOneWatch();
        }
        return one.length;
    }

    public int read(int s) {
        int fault = faultOfSheet(s);
        if (fault != 0) {
            return fault;
        }
        Sheet one = sheets[s];
        int pairs = 0;
        for (int e = 0; e <= MOST_EAR; e++) {
            for (int h = AWAY; h <= TOWARDS; h++) {
                tryAsItIs();
                trial.ear = e;
                trial.heart = h;
                if (one.isTrackOf(trial)) {
                    pairs++;
                }
            }
        }
        return pairs;
    }

    // ---- images

    public int image() {
        kept.become(sea);
        isKept = true;
        return 1;
    }

    public int undo() {
        if (!isKept) {
            return found(NONE);
        }
        sea.become(kept);
        return sea.size;
    }

    public int tear() {
        int had = isKept ? 1 : 0;
        isKept = false;
        return had;
    }

    public int count(int what) {
        switch (what) {
            case 0: return sea.size;
            case 1: return tape.length;
            case 2: return sea.silentRocks();
            case 3: return sea.allHorns();
            default: return found(BEYOND);
        }
    }

    public int status(int which) {
        if (which == -1) {
            int all = 0;
            for (int i = 0; i < FINDINGS; i++) {
                all += tally[i];
            }
            return all;
        }
        return isWithin(which, 0, FINDINGS - 1) ? tally[which] : found(BEYOND);
    }

    // ---- what the calls share

    /** Counts a finding, and gives the number that tells it. */
    private int found(int finding) {
        if (finding >= 0 && finding < FINDINGS) {
            tally[finding]++;
        }
        return FIRST_FINDING - finding;
    }

    private int orNone(int answer) {
        return answer == NOTHING ? found(NONE) : answer;
    }

    /** The finding that a call about a sheet's numbers meets first; 0, if it meets none. */
    private int faultOfSheet(int s) {
        if (!isSheet(s)) {
            return found(BEYOND);
        }
        return sheets[s].isMissing() ? found(MISSING) : 0;
    }

    private void tryAsItIs() {
        trial.become(sea);
    }

    private boolean isRock(int rock) {
        return rock >= 0 && rock < sea.size;
    }

    private static boolean isKind(int kind) {
        return kind >= 0 && kind < KINDS;
    }

    private static boolean isSquare(int square) {
        return square >= 0 && square < SQUARES;
    }

    private static boolean isSheet(int s) {
        return s >= 0 && s < SHEETS;
    }

    private static boolean isWithin(int v, int least, int most) {
        return v >= least && v <= most;
    }

    private static int far(int a, int b) {
        return Math.abs(a / SIDE - b / SIDE) + Math.abs(a % SIDE - b % SIDE);
    }

    private static final class Rock {
        int kind;
        int square;
        int horn;
        int sweet;
        int silent;

        void reset(int ofKind, int at) {
            kind = ofKind;
            square = at;
            horn = 20;
            sweet = 5;
            silent = 0;
        }

        void become(Rock other) {
            kind = other.kind;
            square = other.square;
            horn = other.horn;
            sweet = other.sweet;
            silent = other.silent;
        }

        int change(int what, int v) {
            int was;
            switch (what) {
                case ROCK_SQUARE:
                    was = square;
                    square = v;
                    return was;
                case ROCK_HORN:
                    was = horn;
                    horn = v;
                    return was;
                case ROCK_SWEET:
                    was = sweet;
                    sweet = v;
                    return was;
                case ROCK_SILENT:
                default:
                    was = silent;
                    silent = v;
                    return was;
            }
        }

        boolean isOfKind(int asked) {
            int k = kind;
            for (int step = 0; step < KINDS && k >= 0 && k < KINDS; step++) {
                if (k == asked) {
                    return true;
                }
                k = ABOVE[k];
            }
            return false;
        }

        int soundAt(int there, int watch) {
            if (silent == 1) {
                return 0;
            }
            int far = far(square, there);
            int plain = horn / (1 + far);
            int sweetened = far <= 3 ? plain + sweet : plain;
            int tidal = watch % 2 == 0 ? plain : 0;
            switch (kind) {
                case GRANITE: return sweetened;
                case BAR: return tidal;
                case BUOY: return horn;
                case MAID: return watch % 4 == 0 ? 2 * sweetened : sweetened;
                case SHOAL: return Math.max(tidal - far, 0);
                default: return plain;
            }
        }

        int lureAt(int there) {
            if (silent == 1) {
                return 0;
            }
            int fading = Math.max(sweet - far(square, there), 0);
            switch (kind) {
                case GRANITE: return sweet + 3;
                case BAR: return fading;
                case BUOY: return 0;
                case MAID: return sweet + 3 + horn / 10;
                case SHOAL: return fading + 1;
                default: return sweet;
            }
        }

        boolean wrecksIn(int watch) {
            switch (kind) {
                case BAR:
                case SHOAL: return watch % 3 != 2;
                case BUOY: return false;
                default: return true;
            }
        }
    }

    /** All that section 1 of the document tells, but for the tape. */
    private static final class Sea {
        int watch;
        int square;
        int ear;
        int heart;
        int fate;
        int size;
        final Rock[] rocks;

        Sea() {
            watch = 0;
            square = 0;
            ear = 5;
            heart = AWAY;
            fate = SAILING;
            size = 0;
            rocks = new Rock[MOST_ROCKS];
            for (int r = 0; r < MOST_ROCKS; r++) {
                rocks[r] = new Rock();
            }
        }

        void become(Sea other) {
            watch = other.watch;
            square = other.square;
            ear = other.ear;
            heart = other.heart;
            fate = other.fate;
            size = other.size;
            for (int r = 0; r < size; r++) {
                rocks[r].become(other.rocks[r]);
            }
        }

        boolean isFull() {
            return size >= MOST_ROCKS;
        }

        /** The new rock; null, if there are as many as there may be. */
        Rock addRock(int kind, int at) {
            if (isFull()) {
                return null;
            }
            Rock added = rocks[size];
            added.reset(kind, at);
            size++;
            return added;
        }

        void placeShip(int at) {
            square = at;
            fate = at == LAST_SQUARE ? HOME : SAILING;
        }

        int changeShip(int what, int v) {
            int was;
            switch (what) {
                case SHIP_SQUARE:
                    was = square;
                    placeShip(v);
                    return was;
                case SHIP_EAR:
                    was = ear;
                    ear = v;
                    return was;
                default:
                    was = heart;
                    heart = v;
                    return was;
            }
        }

        /** The rock that sounds most at a square; NOTHING, if there is none. */
        int loudestAt(int there) {
            int best = NOTHING;
            int most = -1;
            for (int r = 0; r < size; r++) {
                int sound = rocks[r].soundAt(there, watch);
                if (sound > most) {
                    most = sound;
                    best = r;
                }
            }
            return best;
        }

        int heardSet() {
            int heard = 0;
            for (int r = 0; r < size; r++) {
                if (isHeard(rocks[r].soundAt(square, watch))) {
                    heard |= 1 << r;
                }
            }
            return heard;
        }

        boolean isHeard(int sound) {
            return sound + ear >= 10;
        }

        /** The rock by which the skipper of a sailing ship goes; -1: none. */
        int guide() {
            int best = -1;
            int most = -1;
            for (int r = 0; r < size; r++) {
                int sound = rocks[r].soundAt(square, watch);
                if (isHeard(sound)) {
                    int weight = heart == AWAY ? sound : rocks[r].lureAt(square);
                    if (weight > most) {
                        most = weight;
                        best = r;
                    }
                }
            }
            return best;
        }

        void goWatches(int n) {
            for (int i = 0; i < n; i++) {
                goOneWatch();
            }
        }

        void goOneWatch() {
            if (fate == SAILING) {
                int guide = guide();
                square = guide < 0 ? squareAhead() : squareBy(rocks[guide].square);
                if (isWreckedHere()) {
                    fate = STRUCK;
                } else if (square == LAST_SQUARE) {
                    fate = HOME;
                }
            }
            if (watch % 6 == 5) {
                driftBars();
            }
            watch++;
        }

        int squareAhead() {
            if (square % SIDE < SIDE - 1) {
                return square + 1;
            }
            return square < LAST_SQUARE ? square + SIDE : square;
        }

        int squareBy(int rockSquare) {
            int best = square;
            int bestWorth = -NOTHING;
            for (int way = 0; way < 4; way++) {
                int next = neighbour(way);
                if (next >= 0) {
                    int distance = far(next, rockSquare);
                    int worth = heart == AWAY ? distance : -distance;
                    if (worth > bestWorth) {
                        bestWorth = worth;
                        best = next;
                    }
                }
            }
            return best;
        }

        /** The square up (0), right (1), down (2) or left (3) of hers; -1: off the chart. */
        int neighbour(int way) {
            int row = square / SIDE;
            int column = square % SIDE;
            switch (way) {
                case 0: return row > 0 ? square - SIDE : -1;
                case 1: return column < SIDE - 1 ? square + 1 : -1;
                case 2: return row < SIDE - 1 ? square + SIDE : -1;
                default: return column > 0 ? square - 1 : -1;
            }
        }

        boolean isWreckedHere() {
            for (int r = 0; r < size; r++) {
                if (rocks[r].square == square && rocks[r].wrecksIn(watch)) {
                    return true;
                }
            }
            return false;
        }

        void driftBars() {
            for (int r = 0; r < size; r++) {
                Rock one = rocks[r];
                if (one.silent == 0 && one.square % SIDE > 0 && one.isOfKind(BAR)) {
                    one.square--;
                }
            }
        }

        /** After how many watches she first is struck, or home; NOTHING, if not within so many. */
        int watchesToFate(int wanted, int most) {
            for (int gone = 0; gone <= most; gone++) {
                // Struck or home she stays so: no later watch brings the other.
                if (fate != SAILING) {
                    return fate == wanted ? gone : NOTHING;
                }
                goOneWatch();
            }
            return NOTHING;
        }

        int watchesToSquare(int wanted, int most) {
            for (int gone = 0; gone <= most; gone++) {
                if (square == wanted) {
                    return gone;
                }
                goOneWatch();
            }
            return NOTHING;
        }

        void hush(int chosen) {
            for (int r = 0; r < size; r++) {
                if ((chosen >> r & 1) == 1) {
                    rocks[r].silent = 1;
                }
            }
        }

        int silentRocks() {
            int silent = 0;
            for (int r = 0; r < size; r++) {
                silent += rocks[r].silent;
            }
            return silent;
        }

        int allHorns() {
            int all = 0;
            for (int r = 0; r < size; r++) {
                all += rocks[r].horn;
            }
            return all;
        }
    }

    /** Which of the things offered lets her be home soonest; of several the one offered first. */
    private static final class Choice {
        int best;
        int soonest;

        void open(int soonerThan) {
            best = NOTHING;
            soonest = soonerThan;
        }

        void offer(int candidate, int needed) {
            if (needed < soonest) {
                soonest = needed;
                best = candidate;
            }
        }
    }

    /** The bytes that were fed, and the reader of the chart that they tell. */
    private static final class Tape {
        static final int END = 0;
        static final int WORD = 1;
        static final int NUMBER = 2;
        static final int SIGN = 3;
        static final int STRANGE = 4;
        static final int MOST_NUMBER = 999;

        final byte[] bytes;
        int length;
        /** The token that is looked at: what it is, where it begins, where it ends, its number. */
        int token;
        int start;
        int end;
        int value;

        Tape() {
            bytes = new byte[MOST_BYTES];
            length = 0;
        }

        void append(int number, int n) {
            for (int i = n - 1; i >= 0 && length < MOST_BYTES; i--) {
                bytes[length] = (byte) (number >> 8 * i);
                length++;
            }
        }

        /** The items come to a sea: how many there are; with a fault -1 less its place. */
        int readChart(Sea into) {
            end = 0;
            advance();
            for (int items = 1; items <= MOST_BYTES; items++) {
                if (!readItem(into)) {
                    return -1 - start;
                }
                if (token == END) {
                    return items;
                }
                if (token != SIGN) {
                    return -1 - start;
                }
                advance();
            }
            return -1 - start;
        }

        /** Whether an item stands here; if not, the token looked at is the one that can't stand. */
        boolean readItem(Sea into) {
            if (takeWord("ship")) {
                return readShip(into);
            }
            int kind = kindNamed();
            if (kind < 0 || into.isFull()) {
                return false;
            }
            advance();
            return readRock(into, kind);
        }

        boolean readShip(Sea into) {
            int square = takeNumber(LAST_SQUARE);
            if (square < 0) {
                return false;
            }
            into.placeShip(square);
            if (takeWord("ear")) {
                int ear = takeNumber(MOST_EAR);
                if (ear < 0) {
                    return false;
                }
                into.ear = ear;
            }
            into.heart = takeWord("longing") ? TOWARDS : AWAY;
            return true;
        }

        boolean readRock(Sea into, int kind) {
            if (!takeWord("at")) {
                return false;
            }
            int square = takeNumber(LAST_SQUARE);
            if (square < 0) {
                return false;
            }
            Rock one = into.addRock(kind, square);
            if (one == null) {
                return false;
            }
            if (takeWord("horn")) {
                one.horn = takeNumber(MOST_HORN);
                if (one.horn < 0) {
                    return false;
                }
            }
            if (takeWord("sweet")) {
                one.sweet = takeNumber(MOST_SWEET);
                if (one.sweet < 0) {
                    return false;
                }
            }
            one.silent = takeWord("silent") ? 1 : 0;
            return true;
        }

        /** Goes behind the word, if it stands here. */
        boolean takeWord(String word) {
            if (!isWord(word)) {
                return false;
            }
            advance();
            return true;
        }

        /** Goes behind the number that stands here; -1, if none up to the greatest does. */
        int takeNumber(int most) {
            if (token != NUMBER || value > most) {
                return -1;
            }
            int taken = value;
            advance();
            return taken;
        }

        int kindNamed() {
            for (int kind = 0; kind < KINDS; kind++) {
                if (isWord(nameOf(kind))) {
                    return kind;
                }
            }
            return -1;
        }

        static String nameOf(int kind) {
            switch (kind) {
                case GRANITE: return "granite";
                case BAR: return "bar";
                case BUOY: return "buoy";
                case MAID: return "maid";
                case SHOAL: return "shoal";
                default: return "rock";
            }
        }

        boolean isWord(String word) {
            if (token != WORD || end - start != word.length()) {
                return false;
            }
            for (int i = 0; i < word.length(); i++) {
                if (bytes[start + i] != word.charAt(i)) {
                    return false;
                }
            }
            return true;
        }

        /** Looks at the next token. */
        void advance() {
            start = end;
            while (start < length && bytes[start] == ' ') {
                start++;
            }
            end = start;
            if (start >= length) {
                token = END;
            } else if (isLetter(bytes[start])) {
                token = WORD;
                while (end < length && isLetter(bytes[end])) {
                    end++;
                }
            } else if (isDigit(bytes[start])) {
                token = NUMBER;
                readDigits();
            } else {
                token = bytes[start] == ';' ? SIGN : STRANGE;
                end++;
            }
        }

        void readDigits() {
            value = 0;
            while (end < length && isDigit(bytes[end])) {
                // A number above the greatest grows no more, lest it wrap around to a small one.
                if (value <= MOST_NUMBER) {
                    value = value * 10 + bytes[end] - '0';
                }
                end++;
            }
        }

        static boolean isLetter(byte one) {
            return one >= 'a' && one <= 'z';
        }

        static boolean isDigit(byte one) {
            return one >= '0' && one <= '9';
        }
    }

    /** A row of numbers; those of 8 and 16 bits have a sign, as Java's byte and short have. */
    private static final class Sheet {
        int bits;
        int length;
        final long[] numbers;

        Sheet() {
            bits = 0;
            length = 0;
            numbers = new long[MOST_NUMBERS];
        }

        boolean isMissing() {
            return bits == 0;
        }

        void renew(int newBits, int n) {
            bits = newBits;
            length = newBits == 0 ? 0 : n;
            Arrays.fill(numbers, 0L);
        }

        void put(int i, long v) {
            if (bits == 8) {
                numbers[i] = (byte) v;
            } else if (bits == 16) {
                numbers[i] = (short) v;
            } else {
                numbers[i] = v;
            }
        }

        boolean hasRange(int from, int n) {
            return from >= 0 && n >= 0 && from <= length && n <= length - from;
        }

        boolean isTrackOf(Sea ship) {
            for (int i = 0; i < length; i++) {
                if (numbers[i] != ship.square) {
                    return false;
                }
                ship.goOneWatch();
            }
            return true;
        }
    }
}
