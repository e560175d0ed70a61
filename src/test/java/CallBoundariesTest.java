/** Promises 1 to 22: the boundaries that each names, and the finding that is asked first. */
public final class CallBoundariesTest {
    private static final Script SCRIPT = new Script("CallBoundariesTest");
    /** Something of everything that a refused call might change by mistake. */
    private static final String MUCH = """
        rock 1 24
        rock 2 13
        rock 5 38
        set 0 4 1
        set 1 2 99
        image
        watches 7
        ship 1 7
        ship 2 1
        set 2 3 9
        sheet 0 8 40
        sheet 1 16 3
        sheet 2 64 1
        write 0 39 -1
        write 2 0 99
        tape maid at 9 horn 0;ship 5 longing
        """;
    private static final String EIGHT = """
        times 8 rock 0 20
        """;

    public static void main(String[] args) {
        newObject();
        ship();
        now();
        rock();
        of();
        set();
        turnAndAs();
        soundsAndLoudest();
        watches();
        onAndMoved();
        strikesAndHome();
        late();
        comes();
        ear();
        begin();
        silence();
        kind();
        horn();
        hornBelow();
        fewest();
        SCRIPT.end();
    }

    /** A rock's number: below 0, the last one, the first that isn't; without rocks none, with eight up to 7. */
    private static void rockNumber(String call) {
        SCRIPT.range("", call, 0, -1);
        SCRIPT.range(MUCH, call, 0, 2);
        SCRIPT.range(EIGHT, call, 0, 7);
    }

    private static void newObject() {
        SCRIPT.run("promise 1: no ROCKS; THE TAPE is empty, no image is kept; sheets are MISSING", """
            count 0 = 0
            loudest 0 = NONE
            of 0 0 = BEYOND
            count 1 = 0
            wipe = 0
            chart = -1
            undo = NONE
            tear = 0
            write 0 0 0 = MISSING
            write 1 0 0 = MISSING
            write 2 0 0 = MISSING
            write 3 0 0 = MISSING
            """);
        SCRIPT.run("promise 1: AT 0, EAR 5, HEART 0, WATCH 0", """
            now 0 = 0
            now 1 = 0
            now 2 = 5
            now 3 = 0
            now 4 = 0
            now 5 = 0
            now 6 = -1
            """);
    }

    private static void ship() {
        SCRIPT.range(MUCH, "ship ? 0", 0, 2);
        SCRIPT.range(MUCH, "ship 0 ?", 0, 63);
        SCRIPT.range(MUCH, "ship 1 ?", 0, 9);
        SCRIPT.range(MUCH, "ship 2 ?", 0, 1);
        SCRIPT.run("promise 2: she is neither STRUCK nor, unless it is 63, HOME then", """
            rock 0 1 = 0
            set 0 2 0 = 20
            watches 1 = 1
            now 4 = 1
            ship 0 64 = BEYOND
            ship 1 0 = 5
            ship 2 1 = 0
            now 4 = 1
            ship 0 1 = 1
            now 4 = 0
            ship 0 63 = 1
            now 4 = 2
            ship 1 9 = 0
            ship 2 0 = 1
            ship 0 -1 = BEYOND
            now 4 = 2
            ship 0 62 = 63
            now 4 = 0
            """);
    }

    private static void now() {
        SCRIPT.range(MUCH, "now ?", 0, 6);
        SCRIPT.range("", "now ?", 0, 6);
        SCRIPT.run("promise 3: 6 the ROCK by which he goes (-1: none; also if she is STRUCK or HOME)", """
            now 6 = -1
            rock 3 1 = 0
            now 6 = 0
            ship 0 63 = 0
            now 5 = 1
            now 6 = -1
            ship 0 2 = 63
            now 6 = 0
            rock 0 3 = 1
            set 1 2 0 = 20
            # away from 1
            watches 1 = 3
            now 4 = 1
            now 5 = 1
            now 6 = -1
            """);
    }

    private static void rock() {
        SCRIPT.range(MUCH, "rock ? 0", 0, 5);
        SCRIPT.range(MUCH, "rock 0 ?", 0, 63);
        SCRIPT.run("promise 4: at most 8: FULL; BEYOND is asked before", """
            times 7 rock 0 20
            rock 5 63 = 7
            rock 0 0 = FULL
            rock 5 63 = FULL
            rock 6 0 = BEYOND
            rock -1 0 = BEYOND
            rock 0 64 = BEYOND
            rock 0 -1 = BEYOND
            count 0 = 8
            """);
        SCRIPT.run("promise 4: with HORN 20, SWEET 5, not SILENT at first, the last one too", """
            times 7 rock 0 20
            rock 4 63 = 7
            of 7 0 = 4
            of 7 1 = 63
            of 7 2 = 20
            of 7 3 = 5
            of 7 4 = 0
            """);
    }

    private static void of() {
        rockNumber("of ? 0");
        rockNumber("of ? 8");
        SCRIPT.range(MUCH, "of 0 ?", 0, 8);
        SCRIPT.range(EIGHT, "of 7 ?", 0, 8);
    }

    private static void set() {
        rockNumber("set ? 1 0");
        SCRIPT.range(MUCH, "set 2 ? 0", 1, 4);
        SCRIPT.range(MUCH, "set 0 1 ?", 0, 63);
        SCRIPT.range(MUCH, "set 1 2 ?", 0, 99);
        SCRIPT.range(MUCH, "set 2 3 ?", 0, 9);
        SCRIPT.range(MUCH, "set 0 4 ?", 0, 1);
        SCRIPT.range(EIGHT, "set 7 2 ?", 0, 99);
    }

    private static void turnAndAs() {
        rockNumber("turn ? 3");
        SCRIPT.range(MUCH, "turn 1 ?", 0, 5);
        // One that is of that kind already becomes nothing else.
        SCRIPT.sameAfter(MUCH, "turn 1 2", "count 0");
        rockNumber("as ? 0");
        SCRIPT.range(MUCH, "as 2 ?", 0, 5);
        // A row a kind: the kinds as one of which it may be taken.
        String[] may = {"0", "01", "02", "03", "014", "025"};
        for (int of = 0; of <= 5; of++) {
            for (int as = 0; as <= 5; as++) {
                boolean fits = may[of].indexOf('0' + as) >= 0;
                SCRIPT.run("promise 8: KIND: it isn't of that kind, nor of one under it",
                        "rock " + of + " 9 = 0\nas 0 " + as + " = " + (fits ? "20" : "KIND"));
            }
        }
        SCRIPT.run("promise 8: BEYOND is asked before KIND", """
            rock 0 9 = 0
            as 0 1 = KIND
            as 1 1 = BEYOND
            as -1 1 = BEYOND
            as 0 6 = BEYOND
            """);
    }

    private static void soundsAndLoudest() {
        rockNumber("sounds ? 0");
        SCRIPT.range(MUCH, "sounds 1 ?", 0, 63);
        SCRIPT.range("", "loudest ?", 0, 63);
        SCRIPT.range(MUCH, "loudest ?", 0, 63);
        SCRIPT.run("promise 10: NONE: there is none; BEYOND is asked before", """
            loudest 0 = NONE
            loudest 63 = NONE
            loudest 64 = BEYOND
            loudest -1 = BEYOND
            rock 0 0 = 0
            loudest 63 = 0
            image = 1
            set 0 4 1 = 0
            loudest 0 = 0
            """);
        SCRIPT.run("promise 10: of several the least", """
            times 8 rock 0 20
            loudest 20 = 0
            set 7 2 21 = 20
            loudest 20 = 7
            set 6 2 21 = 20
            loudest 20 = 6
            # at 21 the quotients are cut: 10 each
            loudest 21 = 0
            """);
        SCRIPT.run("promise 10: of several that SOUND 0 the least", """
            rock 2 20 = 0
            rock 5 20 = 1
            set 1 2 99 = 20
            ship 0 63 = 0
            loudest 20 = 1
            watches 1 = 63
            loudest 20 = 0
            """);
    }

    private static void watches() {
        SCRIPT.range("", "watches ?", 1, 100);
        SCRIPT.range(MUCH, "watches ?", 1, 100);
        SCRIPT.run("promise 11: n WATCHES go: 1, 100", """
            rock 3 63 = 0
            # she goes to and fro between 0 and 1
            watches 1 = 1
            now 0 = 1
            watches 100 = 1
            now 0 = 101
            watches 99 = 0
            now 0 = 200
            """);
    }

    private static void onAndMoved() {
        SCRIPT.range(MUCH, "on ? 0", 0, 200);
        SCRIPT.range(MUCH, "on ? 1", 0, 200);
        SCRIPT.range(MUCH, "on 3 ?", 0, 1);
        SCRIPT.run("promise 12: ON n WATCHES (0 to 200)", """
            rock 3 63 = 0
            on 0 0 = 0
            on 1 0 = 1
            on 199 0 = 1
            on 200 0 = 0
            on 200 1 = 0
            """);
        SCRIPT.run("promise 12: 1 if STRUCK, 2 if HOME, else 0, on and before", """
            on 13 1 = 0
            on 14 1 = 2
            rock 0 31 = 0
            set 0 2 0 = 20
            on 9 1 = 0
            on 10 1 = 1
            ship 0 63 = 0
            on 0 1 = 2
            """);
        rockNumber("moved ? 0");
        rockNumber("moved ? 200");
        SCRIPT.range(MUCH, "moved 1 ?", 0, 200);
        SCRIPT.run("promise 13: ON n WATCHES (0 to 200): the first column is the last", """
            rock 2 63 = 0
            ship 0 62 = 0
            moved 0 0 = 63
            moved 0 5 = 63
            moved 0 6 = 62
            moved 0 41 = 57
            moved 0 42 = 56
            moved 0 200 = 56
            """);
    }

    /** A bar drifts down row 6, at whose first column she is in every other watch: she strikes in watch 43. */
    private static final String DRIFT = """
        rock 3 7 = 0
        rock 2 55 = 1
        set 1 2 0 = 20
        ship 0 48 = 0
        """;

    private static void strikesAndHome() {
        SCRIPT.run("promise 14: in how many WATCHES first: 0, 1, many; NONE", DRIFT + """
            strikes = 44
            on 43 1 = 0
            on 44 1 = 1
            watches 43 = 56
            strikes = 1
            watches 1 = 48
            strikes = 0
            watches 1 = 48
            strikes = 0
            home = NONE
            ship 0 48 = 48
            set 1 1 63 = 48
            set 1 4 1 = 0
            strikes = NONE
            ship 0 63 = 48
            strikes = NONE
            """);
        SCRIPT.run("promise 15: in how many WATCHES first: 0, 1, many; NONE", """
            home = 14
            ship 0 62 = 0
            home = 1
            watches 1 = 63
            home = 0
            watches 1 = 63
            home = 0
            strikes = NONE
            rock 3 63 = 0
            ship 0 0 = 63
            home = NONE
            """);
    }

    /** Long voyages, found by a search: home in 102 watches, struck in 125. */
    private static void late() {
        SCRIPT.run("promises 15, 21: HOME after more than 100 WATCHES; within 100", """
            ship 0 63
            watches 6
            tape buoy at 7 horn 10 sweet 8;shoal at 63 horn 64;maid at 49 horn 50 sweet 0
            chart = 3
            tape maid at 11 horn 24 sweet 1;maid at 36 horn 32 sweet 0;buoy at 1 silent;bar at 7 horn 99 sweet 1
            chart = 4
            ship 0 16 = 63
            home = 102
            on 101 1 = 0
            on 102 1 = 2
            comes 63 = 102
            strikes = NONE
            # the horn of a silent one changes nothing
            horn 5 100 = NONE
            watches 1
            home = 101
            horn 5 100 = NONE
            watches 1
            home = 100
            horn 5 100 = 99
            horn 5 99 = NONE
            """);
        SCRIPT.run("promise 14: STRUCK after more than 100 WATCHES", """
            tape buoy at 54 horn 8 sweet 7;bar at 7 horn 82 sweet 0;shoal at 37 horn 35 sweet 7
            chart = 3
            tape maid at 38 horn 4 sweet 2 silent;maid at 7 horn 97 sweet 9;rock at 18 horn 32 sweet 4
            chart = 3
            tape rock at 4 horn 44 sweet 4;shoal at 56 horn 26 sweet 3;ship 38 ear 4
            chart = 3
            strikes = 125
            on 124 1 = 0
            on 125 1 = 1
            home = NONE
            """);
    }

    private static void comes() {
        SCRIPT.range("", "comes ?", 0, 63);
        SCRIPT.range(MUCH, "comes ?", 0, 63);
        SCRIPT.run("promise 16: in how many WATCHES she is AT a SQUARE first: 0, though she comes again", """
            rock 3 63 = 0
            comes 0 = 0
            comes 1 = 1
            comes 2 = NONE
            comes 64 = BEYOND
            ship 0 63 = 0
            comes 63 = 0
            comes 0 = NONE
            """);
    }

    private static void ear() {
        SCRIPT.run("promise 17: EAR 0 to 9; of several the least; NONE", """
            ear = 0
            rock 0 2 = 0
            # beside it he hears 9 by 2, 4: with 6 or more, and turns away
            set 0 2 9 = 20
            ear = 6
            set 0 2 3 = 9
            ear = 9
            set 0 2 1 = 3
            ear = NONE
            ship 0 3 = 0
            ear = 0
            ship 0 63 = 3
            ear = 0
            """);
        SCRIPT.run("promise 17: STRUCK: NONE", """
            rock 0 1 = 0
            set 0 2 0 = 20
            watches 1 = 1
            ear = NONE
            """);
    }

    private static void begin() {
        SCRIPT.range("", "begin ?", 0, 7);
        SCRIPT.range(MUCH, "begin ?", 0, 7);
        SCRIPT.run("promise 18: of one row (0 to 7), unless it is 63", """
            begin 0 = 7
            begin 6 = 55
            begin 7 = 63
            rock 0 63 = 0
            set 0 2 0 = 20
            begin 7 = 63
            begin 6 = NONE
            begin 0 = NONE
            begin 8 = BEYOND
            """);
        SCRIPT.run("promise 18: of several the least", """
            rock 5 15 = 0
            rock 2 46 = 1
            set 0 2 9 = 20
            set 1 2 19 = 20
            ship 2 1 = 0
            begin 2 = 21
            ship 0 21 = 0
            home = 7
            ship 0 23 = 21
            home = 7
            """);
        SCRIPT.run("promise 18: within 100 WATCHES: in 100", """
            tape buoy at 7 horn 10;bar at 63 horn 61 sweet 8;maid at 49 horn 52 sweet 0;maid at 11 horn 24 sweet 1
            chart = 4
            tape maid at 36 horn 32 sweet 0;bar at 55 horn 12 sweet 7 silent;bar at 7 horn 99 sweet 8;ship 16 ear 2
            chart = 4
            home = 100
            begin 2 = 16
            """);
        SCRIPT.run("promise 18: within 100 WATCHES: in 101 and 102 not", """
            ship 0 63
            watches 6
            tape bar at 6 silent;shoal at 57 horn 63;rock at 11 horn 29 sweet 4;maid at 49 horn 43 sweet 0
            chart = 4
            tape buoy at 7 horn 9;maid at 36 horn 28 sweet 0;bar at 23 horn 55 sweet 4;maid at 3 horn 32 sweet 1
            chart = 4
            ship 1 9
            ship 0 0
            home = 102
            begin 0 = NONE
            watches 1 = 8
            home = 101
            begin 1 = NONE
            """);
        SCRIPT.run("promise 18: of one row: the first SQUARE of the next is none of it", """
            rock 1 20 = 0
            set 0 2 0 = 20
            begin 2 = NONE
            ship 0 24 = 0
            home = 11
            """);
        SCRIPT.run("promise 18: the last SQUARE of a row, when the others strike on the way to it", """
            rock 0 47 = 0
            set 0 2 0 = 20
            begin 5 = 47
            begin 4 = NONE
            """);
    }

    private static void silence() {
        SCRIPT.run("promise 19: sooner than as it is; one that isn't SILENT; of several the least; NONE", """
            silence = NONE
            rock 3 63 = 0
            silence = 0
            set 0 4 1 = 0
            silence = NONE
            rock 3 63 = 1
            silence = 1
            rock 3 63 = 2
            silence = NONE
            ship 0 63 = 0
            silence = NONE
            """);
        SCRIPT.run("promise 19: the last of eight", """
            times 7 rock 0 56
            sheet 0 8 7
            lays 0 = 7
            rock 3 63 = 7
            silence = 7
            set 7 4 1 = 0
            silence = NONE
            """);
        SCRIPT.run("promise 19: as soon as it is, is not sooner", """
            rock 0 56 = 0
            set 0 2 0 = 20
            home = 14
            silence = NONE
            """);
        SCRIPT.run("promise 19: of several the least", """
            rock 1 14 = 0
            rock 2 36 = 1
            set 0 2 6 = 20
            set 1 2 10 = 20
            ship 0 17 = 0
            home = 13
            silence = 0
            # either one's silence is as good
            set 0 4 1 = 0
            home = 11
            set 0 4 0 = 1
            set 1 4 1 = 0
            home = 11
            """);
    }

    private static void kind() {
        rockNumber("kind ?");
        SCRIPT.run("promise 20: as each KIND, its own too; of several the least; NONE", """
            rock 5 56 = 0
            set 0 2 0 = 20
            set 0 3 0 = 5
            home = 14
            kind 0 = 0
            rock 0 1 = 1
            set 1 2 0 = 20
            set 1 3 0 = 5
            # in watch 0 all but a buoy wreck at 1
            kind 1 = 3
            kind 0 = NONE
            kind 2 = BEYOND
            ship 0 63 = 0
            kind 1 = 0
            """);
    }

    private static void horn() {
        rockNumber("horn ? 1");
        rockNumber("horn ? 100");
        SCRIPT.range(MUCH, "horn 1 ?", 1, 100);
        SCRIPT.run("promise 21: the greatest HORN (0 to 99), within n WATCHES (1 to 100); NONE", """
            rock 3 63 = 0
            # 14 watches, if he doesn't hear it
            horn 0 14 = 4
            horn 0 13 = NONE
            horn 0 100 = 4
            ship 0 62 = 0
            horn 0 1 = 4
            ship 0 61 = 62
            horn 0 1 = NONE
            horn 0 2 = 4
            ship 1 9 = 5
            horn 0 2 = 0
            ship 0 63 = 61
            horn 0 1 = 99
            turn 0 0 = 3
            ship 0 62 = 63
            horn 0 100 = NONE
            horn 0 101 = BEYOND
            horn 0 0 = BEYOND
            horn 1 1 = BEYOND
            """);
    }

    private static void hornBelow() {
        SCRIPT.run("promise 21: no HORN below 0 is tried", """
            # with every HORN he hears it, and goes up onto the rock
            rock 1 27 = 0
            rock 0 19 = 1
            set 1 4 1 = 0
            ship 0 27 = 0
            horn 0 100 = NONE
            """);
    }

    private static void fewest() {
        SCRIPT.range("", "fewest ?", 1, 40);
        SCRIPT.range(MUCH, "fewest ?", 1, 40);
        SCRIPT.run("promise 22: so that she is not STRUCK ON n WATCHES (1 to 40)", DRIFT + """
            watches 3 = 56
            strikes = 41
            fewest 40 = 0
            watches 1 = 48
            strikes = 40
            fewest 39 = 0
            # silent the bar stays; without the buoy she would meet it
            fewest 40 = 2
            fewest 41 = BEYOND
            watches 39 = 56
            # the next watch alone: without the buoy she goes off to the right
            fewest 1 = 1
            watches 1 = 48
            fewest 1 = NONE
            fewest 40 = NONE
            fewest 0 = BEYOND
            """);
        SCRIPT.run("promise 22: of several the least", """
            # the rock sends her up, the buoy back onto the rock: either one's silence keeps her off
            rock 0 8 = 0
            rock 3 5 = 1
            ship 0 8 = 0
            strikes = 2
            fewest 1 = 0
            fewest 2 = 1
            set 0 4 1 = 0
            fewest 2 = 0
            """);
        SCRIPT.run("promise 22: none, one and all of eight; NONE", """
            fewest 40 = 0
            times 8 rock 1 24
            ship 2 1
            strikes = 3
            fewest 2 = 0
            fewest 3 = 255
            ship 0 25 = 0
            fewest 1 = 255
            set 7 4 1 = 0
            fewest 1 = 127
            set 0 4 1 = 0
            fewest 1 = 126
            ship 0 63 = 25
            fewest 40 = 0
            """);
    }
}
