/** Promises 11 to 16: how watches go, and looking ahead. */
public final class WatchesTest {
    public static void main(String[] args) {
        Script script = new Script("WatchesTest");
        promise11(script);
        waysOfTheShip(script);
        endsOfTheShip(script);
        barsMove(script);
        promises12And13(script);
        promises14To16(script);
        lastWatch(script);
        script.end();
    }

    private static void promise11(Script script) {
        script.run("promise 11", """
            watches 0 = BEYOND
            watches -1 = BEYOND
            watches 101 = BEYOND
            now 0 = 0
            watches 1 = 1
            watches 6 = 7
            watches 1 = 15
            watches 100 = 63
            now 0 = 108
            now 4 = 2
            """);
    }

    private static void waysOfTheShip(Script script) {
        script.run("he hears none: right, at the last column down", """
            ship 0 6 = 0
            watches 1 = 7
            watches 1 = 15
            watches 5 = 55
            watches 1 = 63
            now 4 = 2
            """);
        script.run("away: the farthest; of several up, right, down, left", """
            rock 3 27 = 0
            ship 0 27 = 0
            watches 1 = 19
            ship 0 26 = 19
            watches 1 = 18
            ship 0 3 = 18
            watches 1 = 4
            ship 0 28 = 4
            watches 1 = 20
            ship 0 35 = 20
            watches 1 = 36
            ship 0 0 = 36
            # both ways come nearer by one
            watches 1 = 1
            ship 0 7 = 1
            watches 1 = 15
            ship 0 56 = 15
            watches 1 = 48
            """);
        script.run("away: down before left, and left alone", """
            rock 3 7 = 0
            ship 0 15 = 0
            # up 0, down 2, left 2
            watches 1 = 23
            rock 3 0 = 1
            set 0 2 0 = 20
            turn 0 3 = 3
            ship 0 63 = 23
            ship 0 62 = 63
            set 1 1 54 = 0
            # from 54: up 0, right 2, left 2
            watches 1 = 63
            set 1 1 55 = 54
            ship 0 62 = 63
            # from 55: up 1, right 1, left 3
            watches 1 = 61
            """);
        script.run("towards: the nearest; of several up, right, down, left", """
            rock 3 27 = 0
            ship 2 1 = 0
            ship 0 27 = 0
            watches 1 = 19
            ship 0 0 = 19
            watches 1 = 1
            ship 0 4 = 1
            watches 1 = 12
            ship 0 62 = 12
            watches 1 = 54
            ship 0 28 = 54
            watches 1 = 27
            now 4 = 0
            ship 0 26 = 27
            watches 1 = 27
            ship 0 19 = 27
            watches 1 = 27
            """);
        script.run("towards: the corners and edges of the chart", """
            rock 3 0 = 0
            ship 2 1 = 0
            ship 0 1 = 0
            watches 1 = 0
            ship 0 8 = 0
            watches 1 = 0
            set 0 1 56 = 0
            ship 0 48 = 0
            watches 1 = 56
            watches 1 = 48
            set 0 1 7 = 56
            ship 0 6 = 48
            watches 1 = 7
            # from the corner the others are all as near: down comes before left
            watches 1 = 15
            set 0 1 63 = 7
            ship 0 55 = 15
            watches 1 = 63
            now 4 = 2
            """);
        script.run("by heart 0 the loudest leads, by heart 1 the sweetest; of several the least", """
            rock 3 0 = 0
            rock 3 0 = 1
            rock 1 5 = 2
            rock 1 40 = 3
            ship 0 27 = 0
            # 20 by 6 is 3 and 3: only buoys are heard
            now 5 = 3
            now 6 = 0
            set 1 2 21 = 20
            now 6 = 1
            ship 1 7 = 5
            now 5 = 15
            ship 2 1 = 0
            now 6 = 2
            set 3 3 6 = 5
            now 6 = 3
            set 2 3 6 = 5
            now 6 = 2
            # one that lures most, but is not heard
            set 2 2 0 = 20
            now 6 = 3
            set 3 4 1 = 0
            # buoys lure 0, but are heard
            now 6 = 0
            """);
        script.run("what he hears hangs on the watch", """
            rock 2 2 = 0
            ship 0 16 = 0
            # 20 by 5 is 4
            now 5 = 0
            ship 1 6 = 5
            now 5 = 1
            now 6 = 0
            # away from it: up 3, right 3, down 5
            watches 1 = 24
            now 5 = 0
            watches 1 = 25
            """);
    }

    private static void endsOfTheShip(Script script) {
        script.run("struck she stays", """
            rock 0 2 = 0
            set 0 2 0 = 20
            watches 2 = 2
            now 4 = 1
            set 0 1 40 = 2
            watches 5 = 2
            now 4 = 1
            now 0 = 7
            """);
        script.run("a rock at 63: struck, not home", """
            rock 4 63 = 0
            set 0 2 0 = 20
            set 0 3 0 = 5
            ship 0 62 = 0
            watches 1 = 63
            now 4 = 1
            home = NONE
            strikes = 0
            """);
        script.run("home she is not struck any more", """
            ship 0 63 = 0
            rock 0 63 = 0
            watches 3 = 63
            now 4 = 2
            """);
        script.run("a silent rock wrecks, a buoy does not, of two one is enough", """
            rock 3 1 = 0
            set 0 4 1 = 0
            watches 1 = 1
            now 4 = 0
            ship 0 0 = 1
            rock 1 1 = 1
            set 1 4 1 = 0
            watches 1 = 1
            now 4 = 1
            """);
        script.run("a bar lets her over in watch 2, not in watch 3", """
            rock 2 3 = 0
            set 0 4 1 = 0
            watches 3 = 3
            now 4 = 0
            ship 0 2 = 3
            watches 1 = 3
            now 4 = 1
            """);
        script.run("a shoal lets her over in watch 5", """
            rock 5 6 = 0
            set 0 4 1 = 0
            watches 6 = 6
            now 4 = 0
            turn 0 0 = 5
            ship 0 5 = 6
            watches 1 = 6
            now 4 = 1
            """);
    }

    private static void barsMove(Script script) {
        script.run("bars and shoals move in watches 5, 11, ..; neither at the first column, nor silent", """
            ship 0 63 = 0
            rock 2 10 = 0
            rock 5 9 = 1
            rock 2 10 = 2
            rock 0 10 = 3
            rock 1 10 = 4
            rock 3 10 = 5
            rock 4 10 = 6
            set 2 4 1 = 0
            watches 5 = 63
            of 0 1 = 10
            watches 1 = 63
            of 0 1 = 9
            of 1 1 = 8
            of 2 1 = 10
            of 3 1 = 10
            of 4 1 = 10
            of 5 1 = 10
            of 6 1 = 10
            watches 5 = 63
            of 0 1 = 9
            watches 1 = 63
            of 0 1 = 8
            of 1 1 = 8
            watches 12 = 63
            of 0 1 = 8
            of 1 1 = 8
            """);
        script.run("she goes before the bars move", """
            rock 2 7 = 0
            set 0 2 0 = 20
            watches 6 = 6
            # the bar came upon her: no harm, she goes on
            of 0 1 = 6
            now 4 = 0
            watches 1 = 7
            now 4 = 0
            """);
        script.run("bars move while she is struck", """
            rock 0 1 = 0
            rock 2 39 = 1
            set 0 2 0 = 20
            watches 6 = 1
            now 4 = 1
            of 1 1 = 38
            """);
    }

    private static void promises12And13(Script script) {
        script.run("promise 12", """
            on 0 0 = 0
            on 0 1 = 0
            on 13 0 = 55
            on 13 1 = 0
            on 14 0 = 63
            on 14 1 = 2
            on 200 0 = 63
            on 200 1 = 2
            on 201 0 = BEYOND
            on -1 0 = BEYOND
            on 0 2 = BEYOND
            on 0 -1 = BEYOND
            now 0 = 0
            now 1 = 0
            rock 0 3 = 0
            set 0 2 0 = 20
            on 2 1 = 0
            on 3 1 = 1
            on 9 0 = 3
            now 4 = 0
            """);
        script.run("promise 13", """
            rock 2 7 = 0
            rock 0 7 = 1
            moved 0 0 = 7
            moved 0 5 = 7
            moved 0 6 = 6
            moved 0 41 = 1
            moved 0 42 = 0
            moved 0 200 = 0
            moved 1 200 = 7
            moved 0 201 = BEYOND
            moved 0 -1 = BEYOND
            moved 2 0 = BEYOND
            moved -1 0 = BEYOND
            of 0 1 = 7
            now 0 = 0
            """);
    }

    private static void promises14To16(Script script) {
        script.run("promise 14", """
            strikes = NONE
            rock 0 6 = 0
            set 0 2 0 = 20
            strikes = 6
            watches 4 = 4
            strikes = 2
            watches 2 = 6
            strikes = 0
            ship 0 63 = 6
            strikes = NONE
            """);
        script.run("promise 15", """
            home = 14
            watches 13 = 55
            home = 1
            watches 1 = 63
            home = 0
            rock 3 63 = 0
            ship 0 0 = 63
            home = NONE
            """);
        script.run("promise 16", """
            comes 0 = 0
            comes 1 = 1
            comes 63 = 14
            comes 62 = NONE
            comes -1 = BEYOND
            comes 64 = BEYOND
            rock 0 6 = 0
            set 0 2 0 = 20
            comes 6 = 6
            comes 7 = NONE
            watches 6 = 6
            comes 6 = 0
            now 0 = 6
            """);
    }

    /** The document promises 512 calls, in which no object comes so far; the bound is kept all the same. */
    private static void lastWatch(Script script) {
        HornRocks one = new HornRocks();
        for (int i = 0; i < 999; i++) {
            one.watches(100);
        }
        script.due("the last watch", "now(0)", one.now(0), 99900);
        script.due("the last watch", "watches(100)", one.watches(100), -1000000005L);
        script.due("the last watch", "watches(101)", one.watches(101), -1000000001L);
        script.due("the last watch", "watches(99)", one.watches(99), 63);
        script.due("the last watch", "watches(1)", one.watches(1), -1000000005L);
        script.due("the last watch", "now(0)", one.now(0), 99999);
        script.due("the last watch", "on(200, 1)", one.on(200, 1), 2);
        script.due("the last watch", "status(4)", one.status(4), 2);
    }
}
