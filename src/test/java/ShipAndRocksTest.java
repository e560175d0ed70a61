/** Promises 1 to 10: a new object, the ship, rocks. */
public final class ShipAndRocksTest {
    public static void main(String[] args) {
        Script script = new Script("ShipAndRocksTest");
        promises1To3(script);
        promises4To8(script);
        promises9And10(script);
        kindsSound(script);
        kindsLure(script);
        kindsWreck(script);
        script.end();
    }

    private static void promises1To3(Script script) {
        script.run("promise 1", """
            now 0 = 0
            now 1 = 0
            now 2 = 5
            now 3 = 0
            now 4 = 0
            now 5 = 0
            now 6 = -1
            count 0 = 0
            count 1 = 0
            count 2 = 0
            count 3 = 0
            status -1 = 0
            undo = NONE
            tear = 0
            lays 0 = MISSING
            lays 3 = MISSING
            """);
        script.run("promise 2", """
            ship 0 62 = 0
            now 1 = 62
            now 4 = 0
            ship 0 63 = 62
            now 4 = 2
            ship 0 63 = 63
            ship 0 0 = 63
            now 4 = 0
            ship 1 9 = 5
            ship 1 0 = 9
            now 2 = 0
            ship 2 1 = 0
            ship 2 0 = 1
            ship 2 1 = 0
            now 3 = 1
            ship 0 -1 = BEYOND
            ship 0 64 = BEYOND
            ship 1 -1 = BEYOND
            ship 1 10 = BEYOND
            ship 2 -1 = BEYOND
            ship 2 2 = BEYOND
            ship -1 0 = BEYOND
            ship 3 0 = BEYOND
            ship 2147483647 0 = BEYOND
            ship -2147483648 0 = BEYOND
            now 1 = 0
            now 2 = 0
            now 3 = 1
            """);
        script.run("promise 2: no longer struck, whatever lies there", """
            rock 0 1 = 0
            set 0 2 0 = 20
            watches 1 = 1
            now 4 = 1
            ship 1 3 = 5
            now 4 = 1
            ship 0 1 = 1
            now 4 = 0
            rock 0 63 = 1
            ship 0 63 = 1
            now 4 = 2
            """);
        script.run("promise 3", """
            # 20 by 3 is 6, and 5: 11; 20 by 5 is 4, and 5: 9
            rock 0 2 = 0
            rock 0 4 = 1
            rock 3 60 = 2
            now 5 = 5
            now 6 = 2
            set 2 2 5 = 20
            now 5 = 5
            now 6 = 0
            set 2 2 4 = 5
            now 5 = 1
            set 0 4 1 = 0
            now 5 = 0
            now 6 = -1
            set 0 4 0 = 1
            ship 0 63 = 0
            ship 1 9 = 5
            # home he hears the horns, but goes by none
            now 5 = 7
            now 6 = -1
            watches 3 = 63
            now 0 = 3
            now -1 = BEYOND
            now 7 = BEYOND
            """);
        script.run("promise 3: struck he hears the horns, but goes by none", """
            rock 0 1 = 0
            ship 1 0 = 5
            set 0 2 19 = 20
            watches 1 = 1
            now 4 = 1
            now 5 = 1
            now 6 = -1
            """);
    }

    private static void promises4To8(Script script) {
        script.run("promise 4", """
            rock 0 0 = 0
            rock 5 63 = 1
            rock -1 0 = BEYOND
            rock 6 0 = BEYOND
            rock 0 -1 = BEYOND
            rock 0 64 = BEYOND
            count 0 = 2
            rock 1 1 = 2
            rock 1 1 = 3
            rock 1 1 = 4
            rock 1 1 = 5
            rock 1 1 = 6
            rock 1 1 = 7
            rock 1 1 = FULL
            rock 6 1 = BEYOND
            rock 1 64 = BEYOND
            count 0 = 8
            of 7 1 = 1
            """);
        script.run("promise 5", """
            rock 4 45 = 0
            of 0 0 = 4
            of 0 1 = 45
            of 0 2 = 20
            of 0 3 = 5
            of 0 4 = 0
            of 0 5 = 10
            of 0 6 = 2
            of 0 7 = 10
            of 0 8 = 1
            ship 0 61 = 0
            of 0 5 = 2
            # 20 by 3 and 5, twice
            of 0 6 = 22
            ship 0 40 = 61
            of 0 5 = 5
            of 0 9 = BEYOND
            of 0 -1 = BEYOND
            of 1 0 = BEYOND
            of -1 0 = BEYOND
            of 2147483647 0 = BEYOND
            """);
        script.run("promise 6", """
            rock 0 5 = 0
            rock 0 6 = 1
            set 0 1 63 = 5
            set 0 1 0 = 63
            set 0 2 99 = 20
            set 0 2 0 = 99
            set 0 3 9 = 5
            set 0 3 0 = 9
            set 0 4 1 = 0
            set 0 4 1 = 1
            set 0 4 0 = 1
            set 0 4 1 = 0
            of 0 1 = 0
            of 0 2 = 0
            of 0 3 = 0
            of 0 4 = 1
            of 1 1 = 6
            of 1 2 = 20
            of 1 3 = 5
            of 1 4 = 0
            set 0 0 1 = BEYOND
            set 0 5 0 = BEYOND
            set 0 -1 0 = BEYOND
            set 2 1 0 = BEYOND
            set -1 1 0 = BEYOND
            set 0 1 -1 = BEYOND
            set 0 1 64 = BEYOND
            set 0 2 -1 = BEYOND
            set 0 2 100 = BEYOND
            set 0 3 -1 = BEYOND
            set 0 3 10 = BEYOND
            set 0 4 -1 = BEYOND
            set 0 4 2 = BEYOND
            of 0 0 = 0
            of 0 4 = 1
            """);
        script.run("promise 6: a rock put under her doesn't wreck her until she comes to one", """
            rock 0 40 = 0
            set 0 1 0 = 40
            now 4 = 0
            """);
        script.run("promise 7", """
            rock 2 9 = 0
            set 0 2 33 = 20
            set 0 3 7 = 5
            set 0 4 1 = 0
            turn 0 5 = 2
            turn 0 5 = 5
            turn 0 0 = 5
            of 0 0 = 0
            of 0 1 = 9
            of 0 2 = 33
            of 0 3 = 7
            of 0 4 = 1
            turn 0 6 = BEYOND
            turn 0 -1 = BEYOND
            turn 1 0 = BEYOND
            turn -1 0 = BEYOND
            of 0 0 = 0
            """);
        script.run("promise 8", """
            rock 0 0 = 0
            rock 1 0 = 1
            rock 2 0 = 2
            rock 3 0 = 3
            rock 4 0 = 4
            rock 5 0 = 5
            set 4 2 44 = 20
            as 0 0 = 20
            as 1 0 = 20
            as 2 0 = 20
            as 3 0 = 20
            as 4 0 = 44
            as 5 0 = 20
            as 1 1 = 20
            as 4 1 = 44
            as 2 2 = 20
            as 5 2 = 20
            as 3 3 = 20
            as 4 4 = 44
            as 5 5 = 20
            as 0 1 = KIND
            as 1 4 = KIND
            as 2 5 = KIND
            as 5 1 = KIND
            as 4 2 = KIND
            as 3 1 = KIND
            as 2 3 = KIND
            as 5 4 = KIND
            as 0 6 = BEYOND
            as 0 -1 = BEYOND
            as 6 0 = BEYOND
            as -1 0 = BEYOND
            status 2 = 8
            """);
    }

    private static void promises9And10(Script script) {
        script.run("promise 9", """
            rock 0 27 = 0
            sounds 0 27 = 20
            sounds 0 28 = 10
            sounds 0 36 = 6
            sounds 0 0 = 2
            sounds 0 63 = 2
            set 0 4 1 = 0
            sounds 0 27 = 0
            sounds 0 64 = BEYOND
            sounds 0 -1 = BEYOND
            sounds 1 0 = BEYOND
            sounds -1 0 = BEYOND
            """);
        script.run("promise 10", """
            loudest 0 = NONE
            loudest -1 = BEYOND
            loudest 64 = BEYOND
            rock 0 1 = 0
            rock 0 8 = 1
            rock 0 62 = 2
            loudest 0 = 0
            loudest 9 = 0
            loudest 8 = 1
            loudest 63 = 2
            set 0 4 1 = 0
            loudest 0 = 1
            set 1 4 1 = 0
            set 2 4 1 = 0
            # all sound 0 there: the least of them
            loudest 0 = 0
            """);
    }

    private static void kindsSound(Script script) {
        script.run("SOUNDS in watch 0", """
            rock 1 0 = 0
            rock 4 0 = 1
            rock 2 0 = 2
            rock 5 0 = 3
            rock 3 0 = 4
            ship 0 63 = 0
            set 0 3 7 = 5
            sounds 0 0 = 27
            sounds 0 3 = 12
            sounds 0 11 = 4
            sounds 0 4 = 4
            sounds 1 0 = 50
            sounds 1 3 = 20
            sounds 1 4 = 8
            sounds 2 0 = 20
            sounds 2 3 = 5
            sounds 3 0 = 20
            sounds 3 3 = 2
            sounds 3 4 = 0
            sounds 3 63 = 0
            sounds 4 0 = 20
            sounds 4 63 = 20
            watches 1 = 63
            # an odd watch
            sounds 0 3 = 12
            sounds 1 3 = 10
            sounds 1 4 = 4
            sounds 2 0 = 0
            sounds 3 0 = 0
            sounds 4 63 = 20
            watches 1 = 63
            sounds 1 3 = 10
            sounds 2 0 = 20
            watches 1 = 63
            sounds 1 3 = 10
            sounds 2 0 = 0
            watches 1 = 63
            sounds 1 3 = 20
            set 1 4 1 = 0
            set 4 4 1 = 0
            sounds 1 3 = 0
            sounds 4 0 = 0
            """);
    }

    private static void kindsLure(Script script) {
        script.run("LURES", """
            rock 0 3 = 0
            rock 1 3 = 1
            rock 2 3 = 2
            rock 3 3 = 3
            rock 4 3 = 4
            rock 5 3 = 5
            set 4 2 99 = 20
            of 0 7 = 5
            of 1 7 = 8
            of 2 7 = 2
            of 3 7 = 0
            of 4 7 = 17
            of 5 7 = 3
            set 2 1 6 = 3
            set 5 1 6 = 3
            of 2 7 = 0
            of 5 7 = 1
            set 4 4 1 = 0
            set 5 4 1 = 0
            set 0 4 1 = 0
            of 4 7 = 0
            of 5 7 = 0
            of 0 7 = 0
            """);
    }

    private static void kindsWreck(Script script) {
        script.run("WRECKS", """
            rock 0 0 = 0
            rock 1 0 = 1
            rock 2 0 = 2
            rock 3 0 = 3
            rock 4 0 = 4
            rock 5 0 = 5
            ship 0 63 = 0
            of 2 8 = 1
            of 5 8 = 1
            of 3 8 = 0
            watches 1 = 63
            of 2 8 = 1
            of 5 8 = 1
            watches 1 = 63
            of 0 8 = 1
            of 1 8 = 1
            of 2 8 = 0
            of 3 8 = 0
            of 4 8 = 1
            of 5 8 = 0
            set 0 4 1 = 0
            of 0 8 = 1
            watches 1 = 63
            of 2 8 = 1
            of 5 8 = 1
            """);
    }
}
