/** Promises 23 to 25, and THE TEXT of a CHART: the boundaries that each sentence names. */
public final class TextBoundariesTest {
    private static final Script SCRIPT = new Script("TextBoundariesTest");

    public static void main(String[] args) {
        feed();
        wipe();
        bytesOfTokens();
        longestTokens();
        numbers();
        items();
        endsTooEarly();
        cantStandThere();
        ninthRock();
        itemsOfTheShip();
        faultChangesNothing();
        fullTape();
        SCRIPT.end();
    }

    /** A text on a new object: how many items, or -1 less the place of its fault; no finding, and an empty tape. */
    private static void reads(String text, int want) {
        HornRocks one = new HornRocks();
        Script.feedText(one, text);
        SCRIPT.due("fed", text, one.count(1), text.length());
        SCRIPT.due("chart", text, one.chart(), want);
        SCRIPT.due("tape then", text, one.count(1), 0);
        SCRIPT.due("findings then", text, one.status(-1), 0);
    }

    /** The text's fault is at the first byte of its last part. */
    private static void faultAt(String before, String from) {
        reads(before + from, -1 - before.length());
    }

    private static void feed() {
        SCRIPT.range("", "feed 0 ?", 1, 4);
        SCRIPT.range("tape ship 5", "feed 1 ?", 1, 4);
        SCRIPT.run("promise 23: at most 120: FULL, for all that don't fit; BEYOND is asked before", """
            times 29 feed 0 4
            feed 0 4 = 120
            feed 0 1 = FULL
            feed 0 4 = FULL
            feed 0 0 = BEYOND
            feed 0 5 = BEYOND
            count 1 = 120
            wipe = 120
            times 29 feed 0 4
            feed 0 1 = 117
            feed 0 4 = FULL
            feed 0 3 = 120
            wipe = 120
            times 29 feed 0 4
            feed 0 2 = 118
            feed 0 3 = FULL
            feed 0 2 = 120
            wipe = 120
            times 29 feed 0 4
            feed 0 3 = 119
            feed 0 2 = FULL
            feed 0 1 = 120
            """);
        SCRIPT.run("promise 23: the n lowest bytes of a number, the highest of these first", """
            # "ship" by four, by three and one, by two and two
            feed 1936222576 4 = 4
            feed 8245 2 = 6
            chart = 1
            now 1 = 5
            feed 7563369 3 = 3
            feed 112 1 = 4
            feed 8246 2 = 6
            chart = 1
            now 1 = 6
            feed 29544 2 = 2
            feed 26992 2 = 4
            feed 8247 2 = 6
            chart = 1
            now 1 = 7
            # what is above the lowest bytes is left out, below 0, too
            feed -35992 2 = 2
            feed 1701144944 2 = 4
            feed -224 1 = 5
            feed 2147483448 1 = 6
            chart = 1
            now 1 = 8
            """);
        SCRIPT.run("promise 23: a byte above 127 is one byte", """
            feed -1 4 = 4
            feed -1 1 = 5
            chart = -1
            """);
    }

    private static void wipe() {
        SCRIPT.run("promise 24: how many it had: none, some, all", """
            wipe = 0
            feed 0 1 = 1
            wipe = 1
            wipe = 0
            times 30 feed 0 4
            wipe = 120
            count 1 = 0
            feed 0 4 = 4
            """);
        SCRIPT.sameAfter("", "wipe", "count 1");
    }

    private static void bytesOfTokens() {
        reads("ship 5;ship 6", 2);
        // The bytes on either side of a to z, 0 to 9, ; and the blank begin no token.
        faultAt("ship 5 ", "`");
        faultAt("ship 5 ", "{");
        faultAt("ship 5 ", "@");
        faultAt("ship 5 ", "[");
        faultAt("ship 5 ", "/");
        faultAt("ship 5", ":ship 6");
        faultAt("ship 5", "<ship 6");
        faultAt("ship ", "/");
        faultAt("ship ", ":");
        faultAt("ship", "\u001f5");
        faultAt("ship", "!5");
        faultAt("ship", "\t5");
        faultAt("ship", "\n5");
        faultAt("ship 5", "\u0000");
        faultAt("ship 5", "\u007f");
        faultAt("ship 5", "\u0080");
        faultAt("ship 5", "\u00ff");
        faultAt("", "SHIP 5");
        faultAt("", "Ship 5");
        faultAt("ship 5 ", "Longing");
        // The same bytes with the highest bit.
        faultAt("ship", "\u00a05");
        faultAt("ship ", "\u00b5");
        faultAt("ship 5", "\u00bbship 6");
        faultAt("", "\u00f3hip 5");
        // The first and the last letter and digit.
        faultAt("", "a");
        faultAt("", "z");
        reads("ship 0", 1);
        reads("ship 9", 1);
    }

    private static void longestTokens() {
        faultAt("", "shipp 5");
        faultAt("", "shipa 5");
        faultAt("", "shipz 5");
        faultAt("", "whip 5");
        faultAt("", "shin 5");
        faultAt("", "bock at 5");
        faultAt("", "shi p 5");
        faultAt("", "rockat 5");
        faultAt("rock at 5 ", "hornsweet 5");
        faultAt("rock at 5 ", "silentsilent");
        reads("rock at5horn6sweet7silent;ship8ear9longing", 2);
        // 6 4 is two numbers, 64 one; a byte of another kind ends each.
        faultAt("ship 6 ", "4");
        faultAt("ship ", "64");
        reads("ship 6;ship 4", 2);
        reads("ship6 ;ship4", 2);
        reads(" ship 6 ", 1);
        reads("ship    6", 1);
        reads("ship 6;  ship 4", 2);
    }

    private static void numbers() {
        numberUpTo("ship ", 63);
        numberUpTo("ship 5 ear ", 9);
        numberUpTo("rock at ", 63);
        numberUpTo("rock at 5 horn ", 99);
        numberUpTo("rock at 5 sweet ", 9);
        numberUpTo("rock at 5 horn 5 sweet ", 9);
    }

    /** A number from 0 on; its zeros ahead don't count, and no wrap-around of 8, 16, 32 or 64 bits makes one. */
    private static void numberUpTo(String before, int most) {
        reads(before + "0", 1);
        reads(before + most, 1);
        reads(before + "000" + most, 1);
        reads(before + "0".repeat(50) + most, 1);
        faultAt(before, Integer.toString(most + 1));
        faultAt(before, "00" + (most + 1));
        for (String much : new String[] {"100", "256", "999", "1000", "1001", "9999", "10000", "65536", "2147483648",
            "4294967295", "4294967296", "4294967297", "9223372036854775808", "18446744073709551616",
            "18446744073709551617", "100000000000000000000000000000000000000005"}) {
            faultAt(before, much);
        }
        faultAt(before, "-1");
        faultAt(before, "+1");
        faultAt(before, ";");
        faultAt(before, "five");
    }

    private static void items() {
        String[] names = {"rock", "granite", "bar", "buoy", "maid", "shoal"};
        for (int kind = 0; kind < names.length; kind++) {
            SCRIPT.run("the name of a KIND, and all that may stand behind it", "tape " + names[kind] + " at 63\n" + """
                chart = 1
                of 0 1 = 63
                of 0 2 = 20
                of 0 3 = 5
                of 0 4 = 0
                of 0 0 =""" + " " + kind + "\ntape " + names[kind] + " at 0 horn 99 sweet 9 silent\n" + """
                chart = 1
                of 1 1 = 0
                of 1 2 = 99
                of 1 3 = 9
                of 1 4 = 1
                of 1 0 =""" + " " + kind + "\ntape " + names[kind] + " at 1 horn 0 sweet 0\n" + """
                chart = 1
                of 2 1 = 1
                of 2 2 = 0
                of 2 3 = 0
                of 2 4 = 0
                count 0 = 3
                """);
            faultAt("", names[kind].substring(1) + " at 5");
            faultAt("", names[kind] + "s at 5");
            faultAt("", names[kind].substring(0, names[kind].length() - 1) + " at 5");
        }
        reads("rock at 5 sweet 6 silent", 1);
        reads("rock at 5 horn 6 silent", 1);
        reads("rock at 5 silent", 1);
    }

    private static void endsTooEarly() {
        for (String text : new String[] {"", " ", "rock", "rock ", "rock at", "rock at ", "rock at 5 horn",
            "rock at 5 sweet", "rock at 5 horn 5 sweet", "rock at 5;", "rock at 5 silent ; ", "ship", "ship ",
            "ship 5 ear", "ship 5 ear ", "ship 5;", "ship 5 longing;", "ship 5;rock", "ship 5;rock at"}) {
            faultAt(text, "");
        }
    }

    private static void cantStandThere() {
        faultAt("", ";");
        faultAt("", "5");
        faultAt("  ", "at 5");
        faultAt("rock ", "5");
        faultAt("rock ", ";");
        faultAt("rock ", "rock at 5");
        faultAt("rock ", "ship 5");
        faultAt("rock at ", "at 5");
        faultAt("rock at 5 ", "5");
        faultAt("rock at 5 ", "at 5");
        faultAt("rock at 5 ", "rock at 5");
        faultAt("rock at 5 ", "ear 5");
        faultAt("rock at 5 ", "longing");
        faultAt("rock at 5 horn ", "silent");
        faultAt("rock at 5 horn 5 ", "horn 5");
        faultAt("rock at 5 horn 5 ", "5");
        faultAt("rock at 5 sweet 5 ", "horn 5");
        faultAt("rock at 5 sweet 5 ", "sweet 5");
        faultAt("rock at 5 silent ", "silent");
        faultAt("rock at 5 silent ", "sweet 5");
        faultAt("rock at 5 silent ", "horn 5");
        faultAt("rock at 5;", ";ship 5");
        faultAt("ship ", "at 5");
        faultAt("ship ", "ear 5");
        faultAt("ship ", "longing");
        faultAt("ship 5 ", "5");
        faultAt("ship 5 ", "horn 5");
        faultAt("ship 5 ", "sweet 5");
        faultAt("ship 5 ", "silent");
        faultAt("ship 5 ", "ship 5");
        faultAt("ship 5 ear ", "longing");
        faultAt("ship 5 ear 5 ", "ear 5");
        faultAt("ship 5 ear 5 ", "5");
        faultAt("ship 5 longing ", "ear 5");
        faultAt("ship 5 longing ", "longing");
        // Of several the first.
        faultAt("ship 5;", "reef at 99;ship 99");
        faultAt("rock at ", "99 horn 999;!");
    }

    private static void ninthRock() {
        String eight = "bar at 1;".repeat(8);
        reads(eight + "ship 5", 9);
        faultAt(eight, "bar at 1");
        faultAt(eight + "ship 5 ; ", "maid");
        SCRIPT.run("the name of a KIND for a 9th: its own place, whatever stands behind it", """
            times 7 rock 3 9
            tape bar at 1;ship 5;bar at 2
            chart = -17
            count 0 = 7
            now 1 = 0
            tape ship 5;bar at 1
            chart = 2
            count 0 = 8
            of 7 0 = 2
            tape bar at 1
            chart = -1
            tape bar
            chart = -1
            tape ship 6;granite 99 99
            chart = -8
            now 1 = 5
            tape ship 6;reef
            chart = -8
            tape ship 6;
            chart = -8
            tape ship 6
            chart = 1
            status -1 = 0
            """);
    }

    private static void itemsOfTheShip() {
        SCRIPT.run("ship: neither STRUCK nor HOME, unless it is 63: HOME", """
            rock 0 1 = 0
            set 0 2 0 = 20
            watches 1 = 1
            now 4 = 1
            tape ship 1
            chart = 1
            now 4 = 0
            tape ship 63
            chart = 1
            now 4 = 2
            tape ship 62
            chart = 1
            now 4 = 0
            tape ship 63;ship 0
            chart = 2
            now 4 = 0
            tape ship 0;ship 63
            chart = 2
            now 4 = 2
            """);
        SCRIPT.run("ship: perhaps ear (0 to 9), perhaps longing (HEART 1; else 0)", """
            tape ship 0 ear 9 longing
            chart = 1
            now 2 = 9
            now 3 = 1
            tape ship 0 ear 0
            chart = 1
            now 2 = 0
            now 3 = 0
            tape ship 0 longing
            chart = 1
            now 2 = 0
            now 3 = 1
            tape ship 0
            chart = 1
            now 2 = 0
            now 3 = 0
            """);
        SCRIPT.run("STRUCK she stays so by ITEMS that are not hers", """
            rock 0 1 = 0
            set 0 2 0 = 20
            watches 1 = 1
            tape rock at 5
            chart = 1
            now 4 = 1
            """);
    }

    private static void faultChangesNothing() {
        String much = """
            rock 1 24
            rock 0 1
            set 1 2 0
            set 0 4 1
            image
            watches 1
            ship 1 7
            sheet 0 8 4
            """;
        for (String text : new String[] {"ship 63 ear 0 longing;maid at 3 horn 3 silent;bar at 64", "ship 64", "x",
            "rock at 5;rock at 6;rock at 7;rock at 8;rock at 9;rock at 10;rock at 11", "rock at 5 horn", "ship 5 ear 10"}) {
            SCRIPT.sameAfter(much + "tape " + text, "chart", "wipe");
        }
    }

    private static void fullTape() {
        reads("ship 5" + " ".repeat(114), 1);
        reads(" ".repeat(114) + "ship 5", 1);
        reads("ship " + "0".repeat(114) + "5", 1);
        reads("ship 5;".repeat(16) + "ship 5  ", 17);
        reads("ship5;".repeat(19) + "ship 5", 20);
        reads("ship5;".repeat(20), -121);
        faultAt(" ".repeat(120), "");
        faultAt("ship 5;".repeat(16) + "bar at  ", "");
        faultAt(" ".repeat(119), "!");
        faultAt("", "z".repeat(120));
        faultAt("", "9".repeat(120));
        faultAt("ship ", "9".repeat(115));
    }
}
