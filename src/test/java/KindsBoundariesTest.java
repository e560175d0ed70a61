/** Section 1 of the Terms: the boundaries of FAR, SOUNDS, LURES, WRECKS and HEARS, a test a sentence. */
public final class KindsBoundariesTest {
    private static final Script SCRIPT = new Script("KindsBoundariesTest");

    public static void main(String[] args) {
        far();
        rockSounds();
        graniteSounds();
        barSounds();
        buoySounds();
        maidSounds();
        shoalSounds();
        silentSounds();
        lures();
        wrecks();
        hears();
        SCRIPT.end();
    }

    private static void far() {
        SCRIPT.run("FAR: rows apart and columns apart, together; the chart's sides don't touch", """
            rock 0 0 = 0
            of 0 5 = 0
            set 0 1 8 = 0
            of 0 5 = 1
            ship 0 7 = 0
            of 0 5 = 8
            ship 0 8 = 7
            set 0 1 7 = 8
            of 0 5 = 8
            ship 0 56 = 8
            of 0 5 = 14
            set 0 1 55 = 7
            of 0 5 = 8
            ship 0 63 = 56
            of 0 5 = 1
            set 0 1 0 = 55
            of 0 5 = 14
            set 0 1 63 = 0
            of 0 5 = 0
            """);
    }

    private static void rockSounds() {
        SCRIPT.run("ROCK: HORN by (1 and f), cut", """
            rock 0 0 = 0
            set 0 2 99 = 20
            sounds 0 0 = 99
            sounds 0 1 = 49
            sounds 0 8 = 49
            sounds 0 9 = 33
            sounds 0 63 = 6
            set 0 2 15 = 99
            sounds 0 63 = 1
            set 0 2 14 = 15
            sounds 0 63 = 0
            set 0 2 1 = 14
            sounds 0 0 = 1
            sounds 0 1 = 0
            set 0 2 0 = 1
            sounds 0 0 = 0
            """);
        SCRIPT.run("ROCK: SWEET and WATCH don't matter", """
            rock 0 0 = 0
            set 0 3 9 = 5
            ship 0 63 = 0
            sounds 0 0 = 20
            watches 1 = 63
            sounds 0 0 = 20
            watches 1 = 63
            sounds 0 0 = 20
            """);
    }

    private static void graniteSounds() {
        SCRIPT.run("GRANITE: as ROCK, and SWEET, if f is 3 or less", """
            rock 1 27 = 0
            set 0 2 0 = 20
            set 0 3 9 = 5
            sounds 0 27 = 9
            # f 3 on every side
            sounds 0 3 = 9
            sounds 0 30 = 9
            sounds 0 51 = 9
            sounds 0 24 = 9
            sounds 0 20 = 9
            # f 4
            sounds 0 31 = 0
            sounds 0 59 = 0
            sounds 0 2 = 0
            sounds 0 13 = 0
            set 0 2 99 = 0
            sounds 0 27 = 108
            sounds 0 30 = 33
            sounds 0 31 = 19
            set 0 3 0 = 9
            sounds 0 27 = 99
            sounds 0 30 = 24
            """);
    }

    private static void barSounds() {
        SCRIPT.run("BAR: as ROCK, but 0 in odd WATCHES", """
            rock 2 0 = 0
            ship 0 63 = 0
            sounds 0 0 = 20
            sounds 0 2 = 6
            watches 1 = 63
            sounds 0 0 = 0
            sounds 0 2 = 0
            watches 1 = 63
            sounds 0 0 = 20
            watches 1 = 63
            sounds 0 0 = 0
            watches 1 = 63
            sounds 0 0 = 20
            """);
    }

    private static void buoySounds() {
        SCRIPT.run("BUOY: HORN, whatever f is", """
            rock 3 0 = 0
            sounds 0 0 = 20
            sounds 0 63 = 20
            set 0 2 99 = 20
            sounds 0 0 = 99
            sounds 0 63 = 99
            set 0 2 0 = 99
            sounds 0 0 = 0
            ship 0 63 = 0
            set 0 2 1 = 0
            watches 1 = 63
            sounds 0 63 = 1
            """);
    }

    private static void maidSounds() {
        SCRIPT.run("MAID: twice as GRANITE in WATCHES whose rest by 4 is 0, else as GRANITE", """
            rock 4 0 = 0
            set 0 2 19 = 20
            ship 0 63 = 0
            # f 1: 9 and 5, twice; f 3: 4 and 5, twice; f 4: 3, twice
            sounds 0 1 = 28
            sounds 0 3 = 18
            sounds 0 4 = 6
            watches 1 = 63
            sounds 0 1 = 14
            sounds 0 3 = 9
            sounds 0 4 = 3
            watches 1 = 63
            sounds 0 1 = 14
            watches 1 = 63
            sounds 0 1 = 14
            watches 1 = 63
            sounds 0 1 = 28
            watches 4 = 63
            sounds 0 1 = 28
            set 0 2 99 = 19
            set 0 3 9 = 5
            sounds 0 0 = 216
            """);
    }

    private static void shoalSounds() {
        SCRIPT.run("SHOAL: as BAR, less f (0 at least)", """
            rock 5 0 = 0
            ship 0 63 = 0
            sounds 0 0 = 20
            sounds 0 3 = 2
            # 4 less 4, 3 less 5
            sounds 0 4 = 0
            sounds 0 5 = 0
            sounds 0 63 = 0
            set 0 2 16 = 20
            sounds 0 3 = 1
            set 0 2 12 = 16
            sounds 0 3 = 0
            set 0 2 11 = 12
            sounds 0 3 = 0
            set 0 2 0 = 11
            sounds 0 0 = 0
            sounds 0 1 = 0
            set 0 2 99 = 0
            watches 1 = 63
            sounds 0 0 = 0
            sounds 0 1 = 0
            watches 1 = 63
            sounds 0 1 = 48
            """);
    }

    private static void silentSounds() {
        for (int kind = 0; kind <= 5; kind++) {
            SCRIPT.run("SOUNDS 0, LURES 0, if it is SILENT", "rock " + kind + " 0 = 0\n" + """
                set 0 2 99 = 20
                set 0 3 9 = 5
                set 0 4 1 = 0
                sounds 0 0 = 0
                sounds 0 63 = 0
                of 0 6 = 0
                of 0 7 = 0
                ship 1 9 = 5
                now 5 = 0
                """);
        }
    }

    private static void lures() {
        SCRIPT.run("LURES: ROCK: SWEET, from 0 on; GRANITE: and 3; BUOY: 0", """
            rock 0 63 = 0
            rock 1 63 = 1
            rock 3 0 = 2
            of 0 7 = 5
            of 1 7 = 8
            of 2 7 = 0
            set 0 3 0 = 5
            set 1 3 0 = 5
            of 0 7 = 0
            of 1 7 = 3
            set 0 3 9 = 0
            set 1 3 9 = 0
            set 2 3 9 = 5
            of 0 7 = 9
            of 1 7 = 12
            of 2 7 = 0
            """);
        SCRIPT.run("LURES: BAR: as ROCK, less f (0 at least); SHOAL: as BAR, and 1", """
            rock 2 0 = 0
            rock 5 0 = 1
            of 0 7 = 5
            of 1 7 = 6
            ship 0 4 = 0
            of 0 7 = 1
            of 1 7 = 2
            ship 0 5 = 4
            of 0 7 = 0
            of 1 7 = 1
            ship 0 6 = 5
            of 0 7 = 0
            of 1 7 = 1
            ship 0 63 = 6
            of 0 7 = 0
            of 1 7 = 1
            """);
        SCRIPT.run("LURES: in odd WATCHES, too", """
            rock 2 63 = 0
            rock 4 63 = 1
            ship 0 63 = 0
            watches 1 = 63
            of 0 7 = 5
            of 1 7 = 10
            """);
        SCRIPT.run("LURES: MAID: as GRANITE, and HORN by 10, cut", """
            rock 4 63 = 0
            set 0 2 0 = 20
            of 0 7 = 8
            set 0 2 9 = 0
            of 0 7 = 8
            set 0 2 10 = 9
            of 0 7 = 9
            set 0 2 19 = 10
            of 0 7 = 9
            set 0 2 99 = 19
            of 0 7 = 17
            set 0 3 9 = 5
            of 0 7 = 21
            """);
    }

    private static void wrecks() {
        SCRIPT.run("WRECKS: BAR, SHOAL: but in WATCHES whose rest by 3 is 2 not", """
            rock 2 0 = 0
            rock 5 0 = 1
            ship 0 63 = 0
            of 0 8 = 1
            of 1 8 = 1
            watches 1 = 63
            of 0 8 = 1
            of 1 8 = 1
            watches 1 = 63
            of 0 8 = 0
            of 1 8 = 0
            watches 1 = 63
            of 0 8 = 1
            of 1 8 = 1
            watches 2 = 63
            of 0 8 = 0
            of 1 8 = 0
            """);
        SCRIPT.run("WRECKS: ROCK, GRANITE and MAID yes, BUOY no, in every WATCH", """
            rock 0 0 = 0
            rock 1 0 = 1
            rock 4 0 = 2
            rock 3 0 = 3
            ship 0 63 = 0
            of 0 8 = 1
            of 1 8 = 1
            of 2 8 = 1
            of 3 8 = 0
            watches 1 = 63
            of 0 8 = 1
            of 1 8 = 1
            of 2 8 = 1
            of 3 8 = 0
            watches 1 = 63
            of 0 8 = 1
            of 1 8 = 1
            of 2 8 = 1
            of 3 8 = 0
            """);
        for (int kind = 0; kind <= 5; kind++) {
            SCRIPT.run("WRECKS: SILENT ones do as others", "rock " + kind + " 9 = 0\n" + """
                set 0 4 1 = 0
                """ + "of 0 8 = " + (kind == 3 ? 0 : 1));
        }
    }

    private static void hears() {
        SCRIPT.run("HEARS: SOUNDS and EAR together are 10 or more", """
            rock 3 0 = 0
            set 0 2 5 = 20
            now 5 = 1
            now 6 = 0
            set 0 2 4 = 5
            now 5 = 0
            now 6 = -1
            ship 1 6 = 5
            now 5 = 1
            ship 1 9 = 6
            set 0 2 1 = 4
            now 5 = 1
            set 0 2 0 = 1
            now 5 = 0
            ship 1 0 = 9
            set 0 2 10 = 0
            now 5 = 1
            set 0 2 9 = 10
            now 5 = 0
            """);
    }
}
