/** Promises 23 to 25: the tape, and the text of a chart. */
public final class TextTest {
    private final Script script = new Script("TextTest");

    public static void main(String[] args) {
        TextTest test = new TextTest();
        test.promise23();
        test.promise24();
        test.promise25();
        test.items();
        test.faults();
        test.tooManyRocks();
        test.longTexts();
        test.script.end();
    }

    private void promise23() {
        script.run("promise 23", """
            feed 0 0 = BEYOND
            feed 0 5 = BEYOND
            feed 0 -1 = BEYOND
            count 1 = 0
            # only the lowest bytes, the highest of them first: sh, ip, " 9"
            feed 1819308904 2 = 2
            feed 26992 2 = 4
            feed 8249 2 = 6
            count 1 = 6
            chart = 1
            now 1 = 9
            """);
        script.run("promise 23: four and one", """
            # "ship", " ", "7"
            feed 1936222576 4 = 4
            feed -224 1 = 5
            feed 55 1 = 6
            chart = 1
            now 1 = 7
            """);
        HornRocks one = new HornRocks();
        for (int i = 0; i < 29; i++) {
            one.feed(0, 4);
        }
        script.due("promise 23", "feed(0, 3)", one.feed(0, 3), 119);
        script.due("promise 23", "feed(0, 2)", one.feed(0, 2), -1000000002L);
        script.due("promise 23", "feed(0, 5)", one.feed(0, 5), -1000000001L);
        script.due("promise 23", "count(1)", one.count(1), 119);
        script.due("promise 23", "feed(0, 1)", one.feed(0, 1), 120);
        script.due("promise 23", "feed(0, 1)", one.feed(0, 1), -1000000002L);
        script.due("promise 23", "status(1)", one.status(1), 2);
    }

    private void promise24() {
        script.run("promise 24", """
            wipe = 0
            tape ship 99
            wipe = 7
            wipe = 0
            tape ship 5
            chart = 1
            now 1 = 5
            """);
    }

    private void promise25() {
        script.run("promise 25", """
            tape shoal at 9 horn 3 sweet 2 silent;ship 8 ear 2 longing ; bar at 0
            count 1 = 64
            chart = 3
            count 1 = 0
            count 0 = 2
            of 0 0 = 5
            of 0 1 = 9
            of 0 2 = 3
            of 0 3 = 2
            of 0 4 = 1
            of 1 0 = 2
            of 1 1 = 0
            of 1 2 = 20
            of 1 3 = 5
            of 1 4 = 0
            now 1 = 8
            now 2 = 2
            now 3 = 1
            """);
        script.run("promise 25: nothing changes with a fault, and it is no finding", """
            rock 3 7 = 0
            tape rock at 5;ship 9 ear 1 longing;bar at 64
            chart = -39
            count 0 = 1
            count 1 = 0
            now 1 = 0
            now 2 = 5
            now 3 = 0
            status -1 = 0
            chart = -1
            status -1 = 0
            """);
        script.run("promise 25: items come to what there is", """
            rock 3 7 = 0
            set 0 2 1 = 20
            tape rock at 5
            chart = 1
            tape maid at 6 horn 0
            chart = 1
            count 0 = 3
            of 0 2 = 1
            of 2 0 = 4
            of 2 2 = 0
            now 0 = 0
            """);
    }

    private void items() {
        script.run("all kinds, with and without each part", """
            tape rock at 0;granite at 1 horn 99;bar at 2 sweet 9;buoy at 3 silent
            chart = 4
            tape maid at 4 horn 0 sweet 0;shoal at 63 horn 5 silent;rock at 6 sweet 1 silent
            chart = 3
            of 0 0 = 0
            of 1 0 = 1
            of 2 0 = 2
            of 3 0 = 3
            of 4 0 = 4
            of 5 0 = 5
            of 1 2 = 99
            of 2 3 = 9
            of 2 2 = 20
            of 3 4 = 1
            of 4 2 = 0
            of 4 3 = 0
            of 4 4 = 0
            of 5 1 = 63
            of 5 2 = 5
            of 5 3 = 5
            of 5 4 = 1
            of 6 3 = 1
            of 6 4 = 1
            """);
        script.run("the ship: her ear stays where none is told, her heart does not", """
            ship 1 8 = 5
            ship 2 1 = 0
            tape ship 63
            chart = 1
            now 4 = 2
            now 2 = 8
            now 3 = 0
            tape ship 9 longing
            chart = 1
            now 4 = 0
            now 2 = 8
            now 3 = 1
            tape ship 5 ear 0;ship 6 ear 9
            chart = 2
            now 1 = 6
            now 2 = 9
            now 3 = 0
            """);
        script.run("the ship is not struck any more", """
            rock 0 1 = 0
            set 0 2 0 = 20
            watches 1 = 1
            now 4 = 1
            tape ship 1
            chart = 1
            now 4 = 0
            now 0 = 1
            """);
        reads("  rock   at 5  ;ship 3 ", 2);
        reads("rock at5horn7sweet1silent;ship3ear4longing", 2);
        reads("ship 0 ear 0;rock at 0 horn 0 sweet 0", 2);
        reads("rock at 005 horn 0099 sweet 0000009", 1);
    }

    private void faults() {
        reads("", -1);
        reads("   ", -4);
        reads(";", -1);
        reads("5", -1);
        reads("reef", -1);
        reads("rocks at 5", -1);
        reads("roc", -1);
        reads("Rock at 5", -1);
        reads("rock", -5);
        reads("rock at", -8);
        reads("rock at  ", -10);
        reads("rock 5", -6);
        reads("rockat 5", -1);
        reads("rock at at", -9);
        reads("rock at 64", -9);
        reads("rock at 1000", -9);
        reads("rock at 4294967296", -9);
        reads("rock at 42949672960000000000000005", -9);
        reads("rock at 5 horn", -15);
        reads("rock at 5 horn 100", -16);
        reads("rock at 5 horn sweet 5", -16);
        reads("rock at 5 sweet 10", -17);
        reads("rock at 5 sweet", -16);
        reads("rock at 5 sweet 5 horn 5", -19);
        reads("rock at 5 horn 5 horn 5", -18);
        reads("rock at 5 silent silent", -18);
        reads("rock at 5 silent horn 5", -18);
        reads("rock at 5 silently", -11);
        reads("rock at 5 5", -11);
        reads("rockz at 5", -1);
        reads("rock at 5a", -10);
        reads("aock at 5", -1);
        reads("sock at 5", -1);
        reads("rock at 5;", -11);
        reads("rock at 5;;rock at 5", -11);
        reads("rock at 5 rock at 6", -11);
        reads("rock at 5 ear 5", -11);
        reads("rock at 5\trock", -10);
        reads("rock at -5", -9);
        reads("rock at 5.", -10);
        reads("rock at 5 \u00ff", -11);
        reads("ship", -5);
        reads("ship at 5", -6);
        reads("ship 64", -6);
        reads("ship 5 ear", -11);
        reads("ship 5 ear 10", -12);
        reads("ship 5 longing ear 5", -16);
        reads("ship 5 longing longing", -16);
        reads("ship 5 horn 5", -8);
        reads("ship 5 ear 5 ear 5", -14);
        reads("buoy at 1 ; reef", -13);
        reads("longing", -1);
    }

    private void tooManyRocks() {
        String four = "rock at 1;rock at 2;rock at 3;rock at 4";
        HornRocks one = new HornRocks();
        Script.feedText(one, four);
        script.due("9th rock", "chart()", one.chart(), 4);
        Script.feedText(one, four + ";ship 3;maid at 99");
        script.due("9th rock", "chart()", one.chart(), -48);
        script.due("9th rock", "count(0)", one.count(0), 4);
        Script.feedText(one, four + " ; ship 3");
        script.due("9th rock", "chart()", one.chart(), 5);
        script.due("9th rock", "count(0)", one.count(0), 8);
        Script.feedText(one, "ship 4;reef");
        script.due("9th rock", "chart()", one.chart(), -8);
        Script.feedText(one, "bar");
        script.due("9th rock", "chart()", one.chart(), -1);
        Script.feedText(one, "ship 4");
        script.due("9th rock", "chart()", one.chart(), 1);
        script.due("9th rock", "status(-1)", one.status(-1), 0);
    }

    private void longTexts() {
        reads("rock at 5" + " ".repeat(111), 1);
        reads("rock at " + "0".repeat(111) + "7", 1);
        reads("rock at 5;" + "ship 3;".repeat(15) + "bar 3", -120);
        reads("ship 3;".repeat(16) + "ship 63 ", 17);
        reads("z".repeat(120), -1);
        reads(" ".repeat(120), -121);
    }

    private void reads(String text, int want) {
        HornRocks one = new HornRocks();
        Script.feedText(one, text);
        script.due("a text fed", text, one.count(1), text.length());
        script.due("a text", text, one.chart(), want);
        script.due("a text: the tape is empty then", text, one.count(1), 0);
        script.due("a text: no finding", text, one.status(-1), 0);
    }
}
