/** Promises 32 to 36: the boundaries of images, counts and status(). */
public final class ImageBoundariesTest {
    private static final Script SCRIPT = new Script("ImageBoundariesTest");

    public static void main(String[] args) {
        nothingIsKept();
        whatIsKept();
        whatIsNotKept();
        howManyRocks();
        count();
        status();
        SCRIPT.end();
    }

    private static void nothingIsKept() {
        SCRIPT.run("promise 33: NONE: nothing is kept; promise 34: 1 if something was, else 0", """
            undo = NONE
            tear = 0
            undo = NONE
            image = 1
            image = 1
            undo = 0
            tear = 1
            undo = NONE
            tear = 0
            image = 1
            undo = 0
            tear = 1
            """);
        SCRIPT.run("promise 34: what there is stays, when what was kept is torn", """
            rock 0 9 = 0
            image = 1
            ship 0 5 = 0
            tear = 1
            count 0 = 1
            now 1 = 5
            undo = NONE
            now 1 = 5
            """);
    }

    private static void whatIsKept() {
        SCRIPT.run("promise 32: all that section 1 tells", """
            rock 5 9 = 0
            set 0 2 99 = 20
            set 0 3 9 = 5
            set 0 4 1 = 0
            ship 1 9 = 5
            ship 2 1 = 0
            ship 0 63 = 0
            watches 2 = 63
            image = 1
            turn 0 0
            set 0 1 0
            set 0 2 0
            set 0 3 0
            set 0 4 0
            ship 0 0
            ship 1 0
            ship 2 0
            watches 100
            undo = 1
            of 0 0 = 5
            of 0 1 = 9
            of 0 2 = 99
            of 0 3 = 9
            of 0 4 = 1
            now 0 = 2
            now 1 = 63
            now 2 = 9
            now 3 = 1
            now 4 = 2
            """);
        SCRIPT.run("promise 32: STRUCK is kept", """
            rock 0 1 = 0
            set 0 2 0 = 20
            watches 1 = 1
            image = 1
            ship 0 1 = 1
            now 4 = 0
            undo = 1
            now 4 = 1
            ship 0 63 = 1
            undo = 1
            now 4 = 1
            now 1 = 1
            """);
        SCRIPT.run("promise 33: what was kept latest (which stays)", """
            image = 1
            ship 0 5 = 0
            image = 1
            ship 0 6 = 5
            undo = 0
            now 1 = 5
            ship 0 7 = 5
            undo = 0
            now 1 = 5
            undo = 0
            now 1 = 5
            """);
    }

    private static void whatIsNotKept() {
        SCRIPT.run("promise 32: THE TAPE not, nor sheets, nor status()", """
            sheet 0 8 2 = 2
            write 0 0 5 = 0
            tape ship 5
            image = 1
            wipe = 6
            tape ship 6;
            write 0 0 6 = 5
            sheet 1 16 3 = 3
            rock 6 0 = BEYOND
            undo = 0
            count 1 = 7
            write 0 0 7 = 6
            write 1 2 1 = 0
            sheet 0 0 0 = 0
            wipe = 7
            undo = 0
            count 1 = 0
            write 0 0 1 = MISSING
            status 0 = 1
            status 5 = 1
            """);
    }

    private static void howManyRocks() {
        SCRIPT.run("promise 33: how many ROCKS: none and eight", """
            image = 1
            times 8 rock 0 9
            rock 0 9 = FULL
            undo = 0
            count 0 = 0
            of 0 0 = BEYOND
            times 8 rock 4 10
            image = 1
            set 7 2 7 = 20
            undo = 8
            of 7 2 = 20
            of 7 0 = 4
            rock 0 9 = FULL
            """);
        SCRIPT.run("promise 33: a ROCK that comes behind it is as a new one", """
            image = 1
            rock 4 9
            set 0 2 1
            set 0 3 1
            set 0 4 1
            undo = 0
            rock 0 8 = 0
            of 0 0 = 0
            of 0 1 = 8
            of 0 2 = 20
            of 0 3 = 5
            of 0 4 = 0
            """);
    }

    private static void count() {
        SCRIPT.range("", "count ?", 0, 3);
        SCRIPT.range("rock 0 9\ntape ship", "count ?", 0, 3);
        SCRIPT.run("promise 35: none, all", """
            count 0 = 0
            count 1 = 0
            count 2 = 0
            count 3 = 0
            times 8 rock 0 9
            times 30 feed 0 4
            count 0 = 8
            count 1 = 120
            count 2 = 0
            count 3 = 160
            set 0 4 1
            set 7 4 1
            set 7 2 99
            count 2 = 2
            # of all together, SILENT ones too
            count 3 = 239
            """);
        SCRIPT.run("promise 35: HORNS of all together at most", """
            tape bar at 9 horn 99;bar at 9 horn 99;bar at 9 horn 99;bar at 9 horn 99 silent
            chart = 4
            tape bar at 9 horn 99;bar at 9 horn 99;bar at 9 horn 99;bar at 9 horn 99 silent
            chart = 4
            count 3 = 792
            count 2 = 2
            """);
    }

    private static void status() {
        SCRIPT.range("", "status ?", -1, 6);
        SCRIPT.range("undo\nwrite 0 0 0", "status ?", -1, 6);
        SCRIPT.run("promise 36: each finding at its own number, and all", """
            now 7 = BEYOND
            times 8 rock 0 9
            rock 0 9 = FULL
            as 0 1 = KIND
            undo = NONE
            lays 0 = MISSING
            sheet 0 8 -1 = SIZE
            status 0 = 1
            status 1 = 1
            status 2 = 1
            status 3 = 1
            status 4 = 0
            status 5 = 1
            status 6 = 1
            status -1 = 6
            times 99 sheet 0 8 -1
            status 6 = 100
            status -1 = 105
            """);
        SCRIPT.run("promise 36: BEYOND (counted from then on): another one", """
            status -1 = 0
            status 7 = BEYOND
            status -1 = 1
            status -2 = BEYOND
            status 0 = 2
            status -1 = 2
            """);
        SCRIPT.run("promise 36: undo() takes none back, tear() neither", """
            undo = NONE
            image = 1
            rock 6 9 = BEYOND
            undo = 0
            status -1 = 2
            status 0 = 1
            status 3 = 1
            tear = 1
            status -1 = 2
            """);
        SCRIPT.run("promise 36: a FAULT is no finding, nor a number that looks like one", """
            tape reef
            chart = -1
            chart = -1
            sheet 0 64 1 = 1
            write 0 0 -1000000001 = 0
            write 0 0 0 = -1000000001
            now 6 = -1
            status -1 = 0
            """);
    }
}
