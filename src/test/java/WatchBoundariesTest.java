/** Section 1 of the Terms: the boundaries of how a WATCH goes, a test a sentence. */
public final class WatchBoundariesTest {
    private static final Script SCRIPT = new Script("WatchBoundariesTest");

    public static void main(String[] args) {
        whoGoes();
        guides();
        cornersAway();
        sidesAway();
        ontoTheSides();
        sidesTowards();
        hearsNone();
        strikes();
        comesHome();
        barsMove();
        watchCounts();
        SCRIPT.end();
    }

    private static void whoGoes() {
        SCRIPT.run("(1) if THE SHIP is neither STRUCK nor HOME", """
            rock 0 1 = 0
            rock 0 2 = 1
            set 0 2 0 = 20
            set 1 2 0 = 20
            watches 1 = 1
            now 4 = 1
            watches 1 = 1
            now 4 = 1
            now 0 = 2
            ship 0 63 = 1
            watches 1 = 63
            now 4 = 2
            now 0 = 3
            """);
        SCRIPT.run("a ROCK AT her SQUARE before the WATCH goes is no harm, she is off it then", """
            rock 0 5 = 0
            set 0 2 0 = 20
            ship 0 5 = 0
            now 4 = 0
            watches 1 = 6
            now 4 = 0
            """);
    }

    private static void guides() {
        SCRIPT.run("by HEART 0 the one that SOUNDS most there (of several the least)", """
            rock 3 9 = 0
            rock 3 9 = 1
            rock 3 9 = 2
            now 6 = 0
            set 2 2 21 = 20
            now 6 = 2
            set 1 2 21 = 20
            now 6 = 1
            set 0 2 21 = 20
            now 6 = 0
            set 0 3 0 = 5
            now 6 = 0
            """);
        SCRIPT.run("by HEART 1 the one that LURES most there (of several the least)", """
            rock 0 1 = 0
            rock 0 1 = 1
            rock 0 1 = 2
            ship 2 1 = 0
            now 6 = 0
            set 2 3 6 = 5
            now 6 = 2
            set 1 3 6 = 5
            now 6 = 1
            set 0 3 6 = 5
            now 6 = 0
            # louder is not sweeter
            set 1 2 99 = 20
            now 6 = 0
            # one that LURES 0 is followed, if it is the only one that he HEARS
            set 0 3 0 = 6
            set 1 4 1 = 0
            set 2 4 1 = 0
            now 6 = 0
            """);
        SCRIPT.run("of ROCKS that he HEARS, as a set: all eight, and the last alone", """
            times 8 rock 3 9
            now 5 = 255
            now 6 = 0
            set 0 4 1
            set 1 4 1
            set 2 4 1
            set 3 4 1
            set 4 4 1
            set 5 4 1
            set 6 4 1
            now 5 = 128
            now 6 = 7
            """);
    }

    private static void cornersAway() {
        SCRIPT.run("SQUARES that are on THE CHART: its corners, away", """
            rock 3 0 = 0
            # right before down
            watches 1 = 1
            ship 0 0 = 1
            set 0 1 1 = 0
            watches 1 = 8
            # the SQUARE behind 7 is no neighbour, though it is far
            set 0 1 7 = 1
            ship 0 7 = 8
            watches 1 = 15
            set 0 1 15 = 7
            ship 0 7 = 15
            watches 1 = 6
            # nor is the one ahead of 56
            set 0 1 56 = 15
            ship 0 56 = 6
            watches 1 = 48
            set 0 1 48 = 56
            ship 0 56 = 48
            watches 1 = 57
            """);
    }

    private static void sidesAway() {
        SCRIPT.run("SQUARES that are on THE CHART: its sides, away; up, right, down, left, in this order", """
            rock 3 3 = 0
            # the first row: right, down, left are as far
            ship 0 3 = 0
            watches 1 = 4
            set 0 1 4 = 3
            ship 0 3 = 4
            watches 1 = 11
            set 0 1 12 = 4
            ship 0 3 = 11
            watches 1 = 2
            # the last row: up, right, left
            set 0 1 59 = 12
            ship 0 59 = 2
            watches 1 = 51
            set 0 1 51 = 59
            ship 0 59 = 51
            watches 1 = 60
            set 0 1 52 = 51
            ship 0 59 = 60
            watches 1 = 58
            # the first column: up, right, down
            set 0 1 24 = 52
            ship 0 24 = 58
            watches 1 = 16
            set 0 1 16 = 24
            ship 0 24 = 16
            watches 1 = 25
            set 0 1 17 = 16
            ship 0 24 = 25
            watches 1 = 32
            # the last column: up, down, left
            set 0 1 31 = 17
            ship 0 31 = 32
            watches 1 = 23
            set 0 1 23 = 31
            ship 0 31 = 23
            watches 1 = 39
            set 0 1 55 = 23
            ship 0 31 = 39
            watches 1 = 23
            """);
        SCRIPT.run("away, in the midst: all four as far, three, two, one", """
            rock 3 27 = 0
            ship 0 27 = 0
            watches 1 = 19
            set 0 1 19 = 27
            ship 0 27 = 19
            watches 1 = 28
            set 0 1 20 = 19
            ship 0 27 = 28
            watches 1 = 35
            set 0 1 36 = 20
            ship 0 27 = 35
            watches 1 = 19
            set 0 1 28 = 36
            ship 0 27 = 19
            watches 1 = 19
            # above and to the right of her, as well as far above: down and left are as far
            set 0 1 4 = 28
            ship 0 27 = 19
            watches 1 = 35
            """);
    }

    private static void ontoTheSides() {
        SCRIPT.run("SQUARES that are on THE CHART: its first and last row and column are", """
            # away: up from row 1, right from column 6, down from row 6, left from column 1
            rock 3 19 = 0
            ship 0 11 = 0
            watches 1 = 3
            set 0 1 21 = 19
            ship 0 30 = 3
            watches 1 = 31
            set 0 1 44 = 21
            ship 0 51 = 31
            watches 1 = 59
            set 0 1 10 = 44
            ship 0 1 = 59
            watches 1 = 0
            # and towards it
            ship 2 1 = 0
            set 0 1 3 = 10
            ship 0 11 = 0
            watches 1 = 3
            set 0 1 31 = 3
            ship 0 30 = 3
            watches 1 = 31
            set 0 1 59 = 31
            ship 0 51 = 31
            watches 1 = 59
            set 0 1 24 = 59
            ship 0 25 = 59
            watches 1 = 24
            """);
    }

    private static void sidesTowards() {
        SCRIPT.run("towards: over the side of THE CHART it is not nearer", """
            rock 3 8 = 0
            ship 2 1 = 0
            ship 0 7 = 0
            # 15 and 6 are both 7 from it
            watches 1 = 15
            set 0 1 7 = 8
            ship 0 8 = 15
            watches 1 = 0
            set 0 1 55 = 7
            ship 0 56 = 0
            watches 1 = 48
            set 0 1 56 = 55
            ship 0 55 = 48
            # down 63 is 7 from it, left 54 as well
            watches 1 = 63
            now 4 = 2
            """);
        SCRIPT.run("towards: AT its SQUARE she can't stay; up, right, down, left, in this order", """
            rock 3 27 = 0
            ship 2 1 = 0
            ship 0 27 = 0
            watches 1 = 19
            set 0 1 0 = 27
            ship 0 0 = 19
            watches 1 = 1
            set 0 1 7 = 0
            ship 0 7 = 1
            watches 1 = 15
            set 0 1 56 = 7
            ship 0 56 = 15
            watches 1 = 48
            # up and right as near, right and down, down and left, up and left
            set 0 1 20 = 56
            ship 0 27 = 48
            watches 1 = 19
            set 0 1 36 = 20
            ship 0 27 = 19
            watches 1 = 28
            set 0 1 34 = 36
            ship 0 27 = 28
            watches 1 = 35
            set 0 1 18 = 34
            ship 0 27 = 35
            watches 1 = 19
            """);
    }

    private static void hearsNone() {
        SCRIPT.run("If he HEARS none: one column to the right; at the last column one row down", """
            ship 0 6 = 0
            watches 1 = 7
            watches 1 = 15
            ship 0 47 = 15
            watches 1 = 55
            watches 1 = 63
            now 4 = 2
            ship 0 56 = 63
            watches 1 = 57
            ship 0 62 = 57
            watches 1 = 63
            now 4 = 2
            ship 2 1 = 0
            ship 0 7 = 63
            watches 1 = 15
            """);
    }

    private static void strikes() {
        SCRIPT.run("if a ROCK AT her SQUARE WRECKS: in the WATCH that goes, not in the next", """
            # silent bars stay where they are
            rock 2 1 = 0
            rock 2 2 = 1
            rock 2 3 = 2
            set 0 4 1
            set 1 4 1
            set 2 4 1
            strikes = 1
            set 0 1 40 = 1
            strikes = 2
            set 1 1 40 = 2
            # she comes to 3 in WATCH 2
            strikes = NONE
            watches 2 = 2
            watches 1 = 3
            now 4 = 0
            now 0 = 3
            ship 0 2 = 3
            watches 1 = 3
            now 4 = 1
            """);
        SCRIPT.run("if a ROCK AT her SQUARE WRECKS: of several any", """
            times 7 rock 3 1
            rock 0 1 = 7
            ship 1 0
            set 7 2 0 = 20
            set 0 2 0
            set 1 2 0
            set 2 2 0
            set 3 2 0
            set 4 2 0
            set 5 2 0
            set 6 2 0
            on 1 0 = 1
            on 1 1 = 1
            turn 7 3 = 0
            on 1 1 = 0
            turn 0 0 = 3
            on 1 1 = 1
            """);
    }

    private static void comesHome() {
        SCRIPT.run("else, if it is 63: she is HOME", """
            rock 2 63 = 0
            set 0 4 1 = 0
            ship 0 62 = 0
            watches 1 = 63
            # in WATCH 0 it wrecks
            now 4 = 1
            ship 0 62 = 63
            watches 1 = 63
            now 4 = 1
            ship 0 62 = 63
            watches 1 = 63
            # in WATCH 2 it doesn't
            now 4 = 2
            ship 0 55 = 63
            turn 0 3 = 2
            watches 1 = 63
            now 4 = 2
            ship 0 55 = 63
            turn 0 4 = 3
            watches 1 = 63
            now 4 = 1
            home = NONE
            """);
        SCRIPT.run("62 and 55 are not HOME", """
            ship 0 61 = 0
            watches 1 = 62
            now 4 = 0
            ship 0 47 = 62
            watches 1 = 55
            now 4 = 0
            """);
    }

    private static void barsMove() {
        SCRIPT.run("(2) in WATCHES whose rest by 6 is 5", """
            rock 2 15 = 0
            ship 0 63 = 0
            watches 5 = 63
            of 0 1 = 15
            watches 1 = 63
            of 0 1 = 14
            watches 5 = 63
            of 0 1 = 14
            watches 1 = 63
            of 0 1 = 13
            watches 6 = 63
            of 0 1 = 12
            """);
        SCRIPT.run("(2) one column to the left, if there is one", """
            rock 2 8 = 0
            rock 5 0 = 1
            rock 5 57 = 2
            rock 2 63 = 3
            ship 0 62 = 0
            ship 0 63 = 62
            watches 6 = 63
            of 0 1 = 8
            of 1 1 = 0
            of 2 1 = 56
            of 3 1 = 62
            watches 6 = 63
            of 2 1 = 56
            of 3 1 = 61
            """);
        SCRIPT.run("(2) BARS and SHOALS (KIND 2, or under it) that aren't SILENT", """
            rock 0 12 = 0
            rock 1 12 = 1
            rock 2 12 = 2
            rock 3 12 = 3
            rock 4 12 = 4
            rock 5 12 = 5
            rock 2 12 = 6
            rock 5 12 = 7
            set 6 4 1 = 0
            set 7 4 1 = 0
            ship 0 63 = 0
            watches 6 = 63
            of 0 1 = 12
            of 1 1 = 12
            of 2 1 = 11
            of 3 1 = 12
            of 4 1 = 12
            of 5 1 = 11
            of 6 1 = 12
            of 7 1 = 12
            """);
        SCRIPT.run("(2) comes behind (1): a BAR that comes upon her is no harm", """
            rock 2 7 = 0
            set 0 2 0 = 20
            watches 6 = 6
            of 0 1 = 6
            now 4 = 0
            watches 1 = 7
            now 4 = 0
            """);
    }

    private static void watchCounts() {
        SCRIPT.run("WATCH is 1 more, 99999 at most: watches() STATE, BEYOND asked before", """
            times 999 watches 100
            now 0 = 99900
            watches 100 = STATE
            watches 101 = BEYOND
            watches 99 = 63
            now 0 = 99999
            watches 1 = STATE
            watches 0 = BEYOND
            status 4 = 2
            on 200 1 = 2
            """);
    }
}
