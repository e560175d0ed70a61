/** Promises 32 to 36: images, counts and status. */
public final class ImagesTest {
    public static void main(String[] args) {
        Script script = new Script("ImagesTest");
        promises32To34(script);
        promise35(script);
        promise36(script);
        script.end();
    }

    private static void promises32To34(Script script) {
        script.run("promises 32 and 33", """
            rock 2 12 = 0
            rock 1 40 = 1
            set 0 2 50 = 20
            set 0 3 8 = 5
            set 1 4 1 = 0
            ship 1 7 = 5
            ship 2 1 = 0
            ship 0 8 = 0
            image = 1
            watches 9 = 12
            now 4 = 1
            set 0 1 3 = 11
            set 0 2 1 = 50
            set 0 3 1 = 8
            set 1 4 0 = 1
            turn 0 4 = 2
            turn 1 0 = 1
            rock 3 3 = 2
            ship 0 63 = 12
            ship 1 0 = 7
            ship 2 0 = 1
            undo = 2
            count 0 = 2
            now 0 = 0
            now 1 = 8
            now 2 = 7
            now 3 = 1
            now 4 = 0
            of 0 0 = 2
            of 0 1 = 12
            of 0 2 = 50
            of 0 3 = 8
            of 0 4 = 0
            of 1 0 = 1
            of 1 4 = 1
            # it stays
            set 0 2 9 = 50
            undo = 2
            of 0 2 = 50
            """);
        script.run("promise 32: struck is kept, tape and sheets are not", """
            rock 0 1 = 0
            set 0 2 0 = 20
            watches 1 = 1
            sheet 0 8 2 = 2
            tape ship
            image = 1
            ship 0 50 = 1
            tape  63
            write 0 1 5 = 0
            undo = 1
            now 4 = 1
            now 1 = 1
            count 1 = 7
            write 0 1 6 = 5
            chart = 1
            now 4 = 2
            undo = 1
            now 4 = 1
            """);
        script.run("promise 33: the latest", """
            undo = NONE
            image = 1
            rock 0 1 = 0
            image = 1
            rock 0 2 = 1
            undo = 1
            undo = 1
            count 0 = 1
            """);
        script.run("promise 33: more rocks than there are now", """
            rock 0 1 = 0
            rock 5 2 = 1
            image = 1
            tear = 1
            image = 1
            undo = 2
            of 1 0 = 5
            """);
        script.run("promise 33: a rock that comes anew is as new ones are", """
            image = 1
            rock 4 9 = 0
            set 0 2 1 = 20
            set 0 3 1 = 5
            set 0 4 1 = 0
            undo = 0
            of 0 0 = BEYOND
            rock 2 8 = 0
            of 0 0 = 2
            of 0 1 = 8
            of 0 2 = 20
            of 0 3 = 5
            of 0 4 = 0
            """);
        script.run("promise 34", """
            tear = 0
            image = 1
            image = 1
            tear = 1
            tear = 0
            undo = NONE
            undo = NONE
            status 3 = 2
            """);
    }

    private static void promise35(Script script) {
        script.run("promise 35", """
            rock 0 1 = 0
            rock 3 1 = 1
            rock 5 1 = 2
            set 0 2 99 = 20
            set 1 4 1 = 0
            set 1 2 7 = 20
            feed 5 3 = 3
            count 0 = 3
            count 1 = 3
            count 2 = 1
            count 3 = 126
            set 0 4 1 = 0
            count 2 = 2
            set 2 4 1 = 0
            count 2 = 3
            count 3 = 126
            count -1 = BEYOND
            count 4 = BEYOND
            """);
    }

    private static void promise36(Script script) {
        script.run("promise 36", """
            status -1 = 0
            status 0 = 0
            status 6 = 0
            status 7 = BEYOND
            status 0 = 1
            status -2 = BEYOND
            status 0 = 2
            status -1 = 2
            undo = NONE
            image = 1
            loudest 3 = NONE
            rock 0 3 = 0
            as 0 1 = KIND
            write 0 0 0 = MISSING
            sheet 0 0 -5 = SIZE
            undo = 0
            status 0 = 2
            status 1 = 0
            status 2 = 1
            status 3 = 2
            status 4 = 0
            status 5 = 1
            status 6 = 1
            status -1 = 7
            """);
    }
}
