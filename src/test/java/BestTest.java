/** Promises 17 to 22: what is best. */
public final class BestTest {
    public static void main(String[] args) {
        Script script = new Script("BestTest");
        promise17(script);
        promise18(script);
        promise19(script);
        promise20(script);
        promise21(script);
        promise22(script);
        script.end();
    }

    private static void promise17(Script script) {
        script.run("promise 17", """
            ear = 0
            # in the way and too low to be heard by an ear below 5: 10 by 2 is 5
            rock 0 2 = 0
            set 0 2 10 = 20
            ear = 5
            ship 1 9 = 5
            ear = 5
            now 2 = 9
            set 0 2 2 = 10
            # 2 by 2 is 1: only the best ear hears it
            ear = 9
            set 0 2 0 = 2
            ear = NONE
            ship 0 63 = 0
            ear = 0
            """);
        script.run("promise 17: struck she comes home with no ear", """
            rock 0 1 = 0
            set 0 2 0 = 20
            watches 1 = 1
            ear = NONE
            now 4 = 1
            """);
    }

    private static void promise18(Script script) {
        script.run("promise 18", """
            begin 0 = 7
            begin 6 = 55
            begin 7 = 63
            begin -1 = BEYOND
            begin 8 = BEYOND
            # below the last square of row 0, and not to be heard
            rock 0 15 = 0
            set 0 2 0 = 20
            begin 0 = NONE
            # put upon the rock she is not struck, and goes on
            begin 1 = 15
            begin 2 = 23
            watches 8 = 15
            now 4 = 1
            begin 2 = 23
            now 4 = 1
            now 1 = 15
            """);
        script.run("promise 18: home she had best begin where it is soonest, too", """
            ship 0 63 = 0
            begin 3 = 31
            rock 0 63 = 0
            begin 7 = 63
            now 1 = 63
            """);
    }

    private static void promise19(Script script) {
        script.run("promise 19", """
            silence = NONE
            rock 3 63 = 0
            home = NONE
            silence = 0
            of 0 4 = 0
            rock 3 63 = 1
            silence = NONE
            set 0 4 1 = 0
            silence = 1
            set 1 4 1 = 0
            home = 14
            silence = NONE
            """);
        script.run("promise 19: no sooner than as it is", """
            rock 0 56 = 0
            set 0 2 0 = 20
            home = 14
            silence = NONE
            """);
        script.run("promise 19: sooner than as it is", """
            rock 3 9 = 0
            rock 0 17 = 1
            rock 0 17 = 2
            set 0 2 0 = 20
            set 1 2 10 = 20
            set 2 2 0 = 20
            ship 0 9 = 0
            # away from it she goes up first, and comes home later
            on 1 0 = 1
            home = 14
            silence = 1
            set 1 4 1 = 0
            home = 12
            silence = NONE
            ship 0 63 = 9
            silence = NONE
            """);
    }

    private static void promise20(Script script) {
        script.run("promise 20", """
            rock 3 63 = 0
            # a buoy sends her off, a rock wrecks her, a bar has moved to 61 when she comes
            home = NONE
            kind 0 = 2
            turn 0 0 = 3
            kind 0 = 2
            of 0 0 = 0
            # a silent bar stays, and wrecks her in watch 13
            set 0 4 1 = 0
            kind 0 = 3
            set 0 1 56 = 63
            kind 0 = 0
            rock 0 5 = 1
            set 1 4 1 = 0
            kind 0 = NONE
            # she comes to it in watch 4, in which bars wreck
            kind 1 = 3
            kind 2 = BEYOND
            kind -1 = BEYOND
            """);
    }

    private static void promise21(Script script) {
        script.run("promise 21", """
            rock 3 63 = 0
            horn 0 14 = 4
            horn 0 100 = 4
            horn 0 13 = NONE
            horn 0 1 = NONE
            ship 1 9 = 5
            horn 0 14 = 0
            ship 1 0 = 9
            horn 0 14 = 9
            set 0 4 1 = 0
            horn 0 14 = 99
            horn 0 0 = BEYOND
            horn 0 101 = BEYOND
            horn 1 14 = BEYOND
            horn -1 14 = BEYOND
            of 0 2 = 20
            ship 0 63 = 0
            horn 0 1 = 99
            """);
    }

    private static void promise22(Script script) {
        script.run("promise 22: a horn that draws her", """
            fewest 40 = 0
            rock 1 24 = 0
            set 0 2 99 = 20
            ship 2 1 = 0
            strikes = 3
            fewest 2 = 0
            fewest 3 = 1
            fewest 40 = 1
            of 0 4 = 0
            rock 1 24 = 1
            rock 3 24 = 2
            set 1 2 99 = 20
            fewest 3 = 7
            set 1 4 1 = 0
            # the silent one needs not be of the set
            fewest 3 = 5
            fewest 0 = BEYOND
            fewest 41 = BEYOND
            watches 3 = 24
            fewest 1 = NONE
            """);
        script.run("promise 22: of several sets the least", """
            # the rock sends her up, the buoy back onto the rock: either one's silence keeps her off
            rock 0 8 = 0
            rock 3 5 = 1
            ship 0 8 = 0
            strikes = 2
            fewest 1 = 0
            fewest 12 = 1
            set 1 4 1 = 0
            fewest 12 = 0
            """);
        script.run("promise 22: all eight", """
            tape granite at 24 horn 99;granite at 24 horn 99;granite at 24 horn 99;granite at 24 horn 99
            chart = 4
            tape granite at 24 horn 99;granite at 24 horn 99;granite at 24 horn 99;granite at 24 horn 99
            chart = 4
            ship 2 1 = 0
            fewest 2 = 0
            fewest 3 = 255
            set 7 4 1 = 0
            fewest 3 = 127
            """);
        script.run("promise 22: a rock in the way that is silent anyway", """
            rock 0 5 = 0
            set 0 4 1 = 0
            fewest 4 = 0
            fewest 5 = NONE
            ship 0 63 = 0
            fewest 40 = 0
            """);
    }
}
