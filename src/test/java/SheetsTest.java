/** Promises 26 to 31: sheets. */
public final class SheetsTest {
    public static void main(String[] args) {
        Script script = new Script("SheetsTest");
        promise26(script);
        promise27(script);
        promise28(script);
        promise29(script);
        promises30And31(script);
        script.end();
    }

    private static void promise26(Script script) {
        script.run("promise 26", """
            sheet 0 8 0 = 0
            write 0 0 1 = BEYOND
            sheet 0 16 40 = 40
            write 0 39 7 = 0
            write 0 39 8 = 7
            write 0 40 1 = BEYOND
            # all are 0 again
            sheet 0 64 40 = 40
            write 0 39 1 = 0
            sheet 3 8 1 = 1
            sheet 0 0 5 = 0
            write 0 0 1 = MISSING
            sheet 0 8 5 = 5
            write 0 4 1 = 0
            sheet -1 8 5 = BEYOND
            sheet 4 8 5 = BEYOND
            sheet 0 7 5 = BEYOND
            sheet 0 32 5 = BEYOND
            sheet 0 -8 5 = BEYOND
            sheet 0 8 -1 = SIZE
            sheet 0 0 -1 = SIZE
            sheet 0 0 -2147483648 = SIZE
            sheet 0 8 41 = BEYOND
            sheet 0 0 41 = BEYOND
            sheet 4 8 -1 = BEYOND
            sheet 0 1 -1 = BEYOND
            write 0 4 2 = 1
            status 6 = 3
            status 0 = 11
            """);
    }

    private static void promise27(Script script) {
        script.run("promise 27", """
            write -1 0 1 = BEYOND
            write 4 0 1 = BEYOND
            write 0 0 1 = MISSING
            write 0 99 1 = MISSING
            sheet 0 8 2 = 2
            sheet 1 16 2 = 2
            sheet 2 64 2 = 2
            write 0 0 127 = 0
            write 0 0 128 = 127
            write 0 0 255 = -128
            write 0 0 256 = -1
            write 0 0 -129 = 0
            write 0 0 0 = 127
            write 1 1 32767 = 0
            write 1 1 32768 = 32767
            write 1 1 65536 = -32768
            write 1 1 65535 = 0
            write 1 1 0 = -1
            write 2 1 9223372036854775807 = 0
            write 2 1 -9223372036854775808 = 9223372036854775807
            write 2 1 0 = -9223372036854775808
            write 0 1 0 = 0
            write 0 2 0 = BEYOND
            write 0 -1 0 = BEYOND
            write 0 2147483647 0 = BEYOND
            """);
        script.run("promise 27: a number that looks like a finding is none", """
            sheet 2 64 1 = 1
            write 2 0 -1000000001 = 0
            write 2 0 0 = -1000000001
            status -1 = 0
            """);
    }

    private static void promise28(Script script) {
        script.run("promise 28", """
            sheet 0 8 5 = 5
            write 0 0 1 = 0
            write 0 1 2 = 0
            write 0 2 3 = 0
            write 0 3 4 = 0
            write 0 4 5 = 0
            # onto itself, as they all were
            copy 0 0 0 1 4 = 4
            write 0 4 0 = 4
            write 0 3 0 = 3
            write 0 2 0 = 2
            write 0 1 9 = 1
            write 0 0 8 = 1
            sheet 1 8 3 = 3
            copy 0 0 1 1 2 = 2
            write 1 0 0 = 0
            write 1 1 0 = 8
            write 1 2 0 = 9
            write 0 0 8 = 8
            copy 0 5 1 3 0 = 0
            copy 0 6 1 0 0 = BEYOND
            copy 0 0 1 4 0 = BEYOND
            copy 0 0 1 0 4 = BEYOND
            copy 0 3 1 0 3 = BEYOND
            copy 0 0 1 1 3 = BEYOND
            copy 0 -1 1 0 1 = BEYOND
            copy 0 0 1 -1 1 = BEYOND
            copy 0 0 1 0 -1 = BEYOND
            copy 0 2147483647 1 0 2147483647 = BEYOND
            copy 0 2 1 2147483647 1 = BEYOND
            copy 0 -2147483648 1 0 -2147483648 = BEYOND
            copy 4 0 1 0 1 = BEYOND
            copy 0 0 4 0 1 = BEYOND
            copy -1 0 1 0 1 = BEYOND
            copy 0 0 -1 0 1 = BEYOND
            copy 2 0 4 0 1 = BEYOND
            copy 2 0 0 0 1 = MISSING
            copy 0 0 2 0 1 = MISSING
            copy 0 -1 2 0 1 = MISSING
            sheet 2 16 5 = 5
            copy 0 0 2 0 1 = KIND
            copy 2 0 0 -1 99 = KIND
            write 0 0 0 = 8
            write 1 1 0 = 0
            """);
        script.run("promise 28: back onto itself", """
            sheet 3 64 4 = 4
            write 3 1 1 = 0
            write 3 2 2 = 0
            write 3 3 -3 = 0
            copy 3 1 3 0 3 = 3
            write 3 0 0 = 1
            write 3 1 0 = 2
            write 3 2 0 = -3
            write 3 3 0 = -3
            """);
    }

    private static void promise29(Script script) {
        script.run("promise 29", """
            lays -1 = BEYOND
            lays 4 = BEYOND
            lays 1 = MISSING
            sheet 1 16 6 = 6
            lays 1 = 0
            rock 0 5 = 0
            rock 0 5 = 1
            rock 0 5 = 2
            rock 0 5 = 3
            write 1 0 99 = 0
            write 1 1 100 = 0
            write 1 2 -1 = 0
            write 1 4 7 = 0
            lays 1 = 2
            of 0 2 = 99
            of 1 2 = 20
            of 2 2 = 20
            of 3 2 = 0
            sheet 1 64 1 = 1
            # its lowest 32 bits would be a horn
            write 1 0 4294967301 = 0
            lays 1 = 0
            of 0 2 = 99
            sheet 1 8 0 = 0
            lays 1 = 0
            """);
    }

    private static void promises30And31(Script script) {
        script.run("promise 30", """
            book -1 = BEYOND
            book 4 = BEYOND
            book 0 = MISSING
            sheet 0 8 0 = 0
            book 0 = 0
            sheet 0 8 16 = 16
            watches 2 = 2
            book 0 = 16
            write 0 0 0 = 2
            write 0 5 0 = 7
            write 0 6 0 = 15
            write 0 12 0 = 63
            write 0 13 0 = 63
            write 0 15 0 = 63
            now 0 = 2
            now 1 = 2
            """);
        script.run("promise 31", """
            read -1 = BEYOND
            read 4 = BEYOND
            read 0 = MISSING
            sheet 0 16 0 = 0
            read 0 = 20
            sheet 0 16 3 = 3
            read 0 = 0
            book 0 = 3
            read 0 = 20
            # a buoy that he hears with an ear of 5 or more: away from 56 goes right, too; towards it down
            rock 3 56 = 0
            set 0 2 5 = 20
            read 0 = 15
            set 0 2 0 = 5
            read 0 = 20
            set 0 2 1 = 0
            read 0 = 19
            write 0 1 8 = 1
            write 0 2 16 = 2
            read 0 = 1
            write 0 0 1 = 0
            read 0 = 0
            now 2 = 5
            now 3 = 0
            now 1 = 0
            """);
        script.run("promise 31: the squares are whole numbers of 64 bits", """
            sheet 0 64 1 = 1
            read 0 = 20
            write 0 0 4294967296 = 0
            read 0 = 0
            """);
        script.run("promise 31: struck she stays, with any ear", """
            rock 0 1 = 0
            set 0 2 0 = 20
            watches 1 = 1
            sheet 0 8 2 = 2
            write 0 0 1 = 0
            write 0 1 1 = 0
            read 0 = 20
            now 4 = 1
            """);
    }
}
