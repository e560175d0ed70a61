/** Promises 26 to 31: the boundaries of sheets, and the finding that is asked first. */
public final class SheetBoundariesTest {
    private static final Script SCRIPT = new Script("SheetBoundariesTest");
    /** Sheet 0 of 8 bits, 1 of 16, 2 of 64, each of three numbers; 3 is MISSING. */
    private static final String THREE = """
        rock 0 9
        rock 3 56
        sheet 0 8 3
        sheet 1 16 3
        sheet 2 64 3
        write 0 0 11
        write 0 2 -12
        write 1 1 1300
        write 2 2 99
        """;

    public static void main(String[] args) {
        sheet();
        sheetOrder();
        write();
        writeBits();
        copy();
        copyOrder();
        copyOntoItself();
        lays();
        book();
        read();
        SCRIPT.end();
    }

    private static void sheet() {
        SCRIPT.range(THREE, "sheet ? 8 1", 0, 3);
        SCRIPT.range(THREE, "sheet ? 0 0", 0, 3);
        SCRIPT.inside(THREE, "sheet 1 ? 1", 0, 8, 16, 64);
        SCRIPT.outside(THREE, "sheet 1 ? 1", "BEYOND", Integer.MIN_VALUE, -64, -1, 1, 7, 9, 15, 17, 32, 63, 65, 128,
                Integer.MAX_VALUE);
        for (int bits : new int[] {0, 8, 16, 64}) {
            String call = "sheet 0 " + bits + " ?";
            SCRIPT.inside(THREE, call, 0, 1, 39, 40);
            SCRIPT.outside(THREE, call, "SIZE", -1, Integer.MIN_VALUE);
            SCRIPT.outside(THREE, call, "BEYOND", 41, Integer.MAX_VALUE);
        }
        SCRIPT.run("promise 26: n (0 if it is MISSING)", """
            sheet 0 8 0 = 0
            sheet 0 8 40 = 40
            sheet 0 0 40 = 0
            write 0 0 0 = MISSING
            sheet 0 0 0 = 0
            sheet 0 64 1 = 1
            """);
        SCRIPT.run("promise 26: all 0, however it was", """
            sheet 3 64 40 = 40
            write 3 0 -1
            write 3 39 -1 = 0
            sheet 3 64 40 = 40
            write 3 0 -1 = 0
            write 3 39 -1 = 0
            sheet 3 8 1 = 1
            write 3 0 -1 = 0
            sheet 3 0 1 = 0
            sheet 3 16 40 = 40
            write 3 0 0 = 0
            write 3 39 0 = 0
            """);
        SCRIPT.run("promise 26: a sheet without numbers is not MISSING", """
            sheet 0 8 0 = 0
            write 0 0 0 = BEYOND
            lays 0 = 0
            book 0 = 0
            read 0 = 20
            copy 0 0 0 0 0 = 0
            """);
    }

    private static void sheetOrder() {
        SCRIPT.run("promise 26: BEYOND: no such sheet, other bits; SIZE; BEYOND: n, in this order", """
            sheet 4 8 -1 = BEYOND
            sheet -1 0 -1 = BEYOND
            sheet 0 7 -1 = BEYOND
            sheet 0 -8 -1 = BEYOND
            sheet 4 7 41 = BEYOND
            sheet 0 8 -1 = SIZE
            sheet 0 0 -1 = SIZE
            sheet 0 8 41 = BEYOND
            sheet 0 0 41 = BEYOND
            write 0 0 0 = MISSING
            status 0 = 7
            status 6 = 2
            """);
    }

    private static void write() {
        SCRIPT.range(THREE + "sheet 3 8 1", "write ? 0 7", 0, 3);
        SCRIPT.range(THREE, "write 0 ? 7", 0, 2);
        SCRIPT.range(THREE, "write 1 ? 7", 0, 2);
        SCRIPT.range(THREE, "write 2 ? 7", 0, 2);
        SCRIPT.range("sheet 3 64 40", "write 3 ? 7", 0, 39);
        SCRIPT.range("sheet 3 64 0", "write 3 ? 7", 0, -1);
        SCRIPT.outside(THREE, "write 3 ? 7", "MISSING", -1, 0, 40, Integer.MAX_VALUE);
        SCRIPT.run("promise 27: BEYOND: no such sheet; MISSING; BEYOND: no such number, in this order", """
            write 4 0 0 = BEYOND
            write -1 -1 0 = BEYOND
            write 0 -1 0 = MISSING
            write 0 40 0 = MISSING
            sheet 0 8 40 = 40
            write 0 -1 0 = BEYOND
            write 0 40 0 = BEYOND
            write 0 39 0 = 0
            status 0 = 4
            status 5 = 2
            """);
    }

    private static void writeBits() {
        SCRIPT.run("promise 27: its lowest 8 bits", """
            sheet 0 8 1 = 1
            write 0 0 127 = 0
            write 0 0 128 = 127
            write 0 0 255 = -128
            write 0 0 256 = -1
            write 0 0 257 = 0
            write 0 0 -128 = 1
            write 0 0 -129 = -128
            write 0 0 -256 = 127
            write 0 0 9223372036854775807 = 0
            write 0 0 -9223372036854775808 = -1
            write 0 0 4294967295 = 0
            write 0 0 0 = -1
            """);
        SCRIPT.run("promise 27: its lowest 16 bits", """
            sheet 0 16 1 = 1
            write 0 0 32767 = 0
            write 0 0 32768 = 32767
            write 0 0 65535 = -32768
            write 0 0 65536 = -1
            write 0 0 -32768 = 0
            write 0 0 -32769 = -32768
            write 0 0 9223372036854775807 = 32767
            write 0 0 -9223372036854775808 = -1
            write 0 0 255 = 0
            write 0 0 0 = 255
            """);
        SCRIPT.run("promise 27: all 64 bits; findings in longs, too", """
            sheet 0 64 1 = 1
            write 0 0 9223372036854775807 = 0
            write 0 0 -9223372036854775808 = 9223372036854775807
            write 0 0 4294967296 = -9223372036854775808
            write 0 0 -1 = 4294967296
            write 0 0 -1000000006 = -1
            write 0 0 0 = -1000000006
            status -1 = 0
            write 0 1 0 = BEYOND
            write 1 0 0 = MISSING
            status -1 = 2
            """);
    }

    private static void copy() {
        String four = THREE + "sheet 3 8 4";
        SCRIPT.range(four + "\nsheet 1 8 1\nsheet 2 8 1", "copy ? 0 0 0 1", 0, 3);
        SCRIPT.range(four + "\nsheet 1 8 1\nsheet 2 8 1", "copy 0 0 ? 0 1", 0, 3);
        SCRIPT.range(four, "copy 0 ? 3 0 1", 0, 2);
        SCRIPT.range(four, "copy 3 0 0 ? 1", 0, 2);
        SCRIPT.range(four, "copy 0 ? 3 0 0", 0, 3);
        SCRIPT.range(four, "copy 3 0 0 ? 0", 0, 3);
        SCRIPT.range(four, "copy 0 0 3 0 ?", 0, 3);
        SCRIPT.range(four, "copy 3 0 0 0 ?", 0, 3);
        SCRIPT.range(four, "copy 0 1 3 0 ?", 0, 2);
        SCRIPT.range(four, "copy 3 0 0 2 ?", 0, 1);
        SCRIPT.range(four, "copy 0 3 3 4 ?", 0, 0);
        SCRIPT.range("sheet 0 64 40\nsheet 1 64 40", "copy 0 0 1 0 ?", 0, 40);
        SCRIPT.outside(four, "copy 0 ? 3 ? ?", "BEYOND", Integer.MIN_VALUE, -1, Integer.MAX_VALUE);
        SCRIPT.outside(four, "copy 0 2 3 0 ?", "BEYOND", Integer.MAX_VALUE, Integer.MAX_VALUE - 1);
        SCRIPT.sameAfter(four, "copy 0 3 3 4 0", "count 0");
        SCRIPT.run("promise 28: n numbers from one on come to another one from one on: none more", """
            sheet 0 16 40 = 40
            sheet 1 16 40 = 40
            write 0 0 -300 = 0
            write 0 38 301 = 0
            write 0 39 302 = 0
            copy 0 38 1 0 2 = 2
            copy 0 0 1 39 1 = 1
            write 1 0 0 = 301
            write 1 1 0 = 302
            write 1 2 0 = 0
            write 1 38 0 = 0
            write 1 39 0 = -300
            write 0 0 0 = -300
            copy 0 0 1 0 40 = 40
            write 1 37 0 = 0
            write 1 38 0 = 301
            write 1 39 0 = 302
            """);
    }

    private static void copyOrder() {
        SCRIPT.run("promise 28: BEYOND, MISSING, KIND, BEYOND, in this order", THREE + """
            # no such sheet, though the other is MISSING
            copy 3 0 4 0 1 = BEYOND
            copy 4 0 3 0 1 = BEYOND
            copy -1 0 3 -1 1 = BEYOND
            copy 3 0 -1 0 -1 = BEYOND
            # one is MISSING, or both, though the numbers aren't there
            copy 3 0 0 0 1 = MISSING
            copy 0 0 3 0 1 = MISSING
            copy 3 0 3 0 0 = MISSING
            copy 0 -1 3 99 -1 = MISSING
            # not of as many bits, though the numbers aren't there
            copy 0 0 1 0 1 = KIND
            copy 1 0 2 0 0 = KIND
            copy 2 0 0 0 1 = KIND
            copy 0 -1 2 0 1 = KIND
            copy 0 0 1 0 41 = KIND
            copy 0 0 0 1 3 = BEYOND
            """);
    }

    private static void copyOntoItself() {
        SCRIPT.run("promise 28: as they all were: forth, back, in place", """
            sheet 0 8 4 = 4
            write 0 0 1
            write 0 1 2
            write 0 2 3
            write 0 3 4
            copy 0 0 0 1 3 = 3
            copy 0 0 0 0 4 = 4
            write 0 0 1 = 1
            write 0 1 2 = 1
            write 0 2 3 = 2
            write 0 3 4 = 3
            copy 0 1 0 0 3 = 3
            write 0 0 1 = 2
            write 0 1 2 = 3
            write 0 2 3 = 4
            write 0 3 4 = 4
            """);
    }

    private static void lays() {
        SCRIPT.range(THREE + "sheet 3 8 0", "lays ?", 0, 3);
        SCRIPT.run("promise 29: BEYOND: no such sheet; MISSING", """
            lays 4 = BEYOND
            lays -1 = BEYOND
            lays 3 = MISSING
            """);
        SCRIPT.sameAfter(THREE + "sheet 0 8 1\nwrite 0 0 7", "lays 0", "set 0 2 7");
        SCRIPT.run("promise 29: those that aren't 0 to 99 are left out", """
            times 6 rock 0 9
            sheet 0 16 6 = 6
            write 0 0 -1
            write 0 1 0
            write 0 2 99
            write 0 3 100
            write 0 4 -32768
            write 0 5 1
            lays 0 = 3
            of 0 2 = 20
            of 1 2 = 0
            of 2 2 = 99
            of 3 2 = 20
            of 4 2 = 20
            of 5 2 = 1
            """);
        SCRIPT.run("promise 29: numbers of 8 and 64 bits", """
            times 3 rock 0 9
            sheet 0 8 3 = 3
            write 0 0 255
            write 0 1 355
            write 0 2 127
            # 355 is 99 in 8 bits
            lays 0 = 1
            of 0 2 = 20
            of 1 2 = 99
            of 2 2 = 20
            sheet 0 64 3 = 3
            write 0 0 4294967296
            write 0 1 -9223372036854775808
            write 0 2 98
            lays 0 = 1
            of 0 2 = 20
            of 1 2 = 99
            of 2 2 = 98
            """);
        SCRIPT.run("promise 29: those that stand for no ROCK are left out; ROCKS without a number stay", """
            sheet 0 8 40 = 40
            lays 0 = 0
            rock 0 9 = 0
            lays 0 = 1
            of 0 2 = 0
            times 7 rock 0 9
            lays 0 = 8
            count 3 = 0
            sheet 0 8 1 = 1
            write 0 0 5
            lays 0 = 1
            count 3 = 5
            sheet 0 8 0 = 0
            lays 0 = 0
            count 3 = 5
            """);
    }

    private static void book() {
        SCRIPT.range(THREE + "sheet 3 8 0", "book ?", 0, 3);
        SCRIPT.run("promise 30: BEYOND: no such sheet; MISSING", """
            book 4 = BEYOND
            book -1 = BEYOND
            book 3 = MISSING
            """);
        SCRIPT.run("promise 30: as many as it has numbers: none, one, 40; ON 0, 1, 2, .. WATCHES", """
            sheet 0 8 0 = 0
            book 0 = 0
            sheet 0 16 1 = 1
            watches 3
            book 0 = 1
            write 0 0 0 = 3
            sheet 0 64 40 = 40
            rock 3 63 = 0
            # away from 63, to and fro
            ship 0 0 = 3
            book 0 = 40
            write 0 0 0 = 0
            write 0 1 0 = 1
            write 0 38 0 = 0
            write 0 39 0 = 1
            now 0 = 3
            now 1 = 0
            """);
        SCRIPT.sameAfter(THREE + "sheet 0 8 1\nship 0 9", "book 0", "write 0 0 9");
        SCRIPT.run("promise 30: HOME and STRUCK she stays", """
            sheet 0 8 3 = 3
            ship 0 62 = 0
            book 0 = 3
            write 0 0 0 = 62
            write 0 1 0 = 63
            write 0 2 0 = 63
            rock 0 63 = 0
            set 0 2 0 = 20
            book 0 = 3
            write 0 0 0 = 62
            write 0 1 0 = 63
            write 0 2 0 = 63
            now 4 = 0
            """);
    }

    private static void read() {
        SCRIPT.range(THREE + "sheet 3 8 0", "read ?", 0, 3);
        SCRIPT.run("promise 31: BEYOND: no such sheet; MISSING", """
            read 4 = BEYOND
            read -1 = BEYOND
            read 3 = MISSING
            """);
        SCRIPT.run("promise 31: none of the 20 pairs, all, one, 40 numbers", """
            sheet 0 8 0 = 0
            read 0 = 20
            sheet 0 8 40 = 40
            read 0 = 0
            book 0 = 40
            read 0 = 20
            write 0 39 62 = 63
            read 0 = 0
            write 0 39 63 = 62
            rock 3 56 = 0
            set 0 2 1 = 20
            # with EAR 9 he hears it, and towards it she goes down
            sheet 0 8 2 = 2
            write 0 1 1
            read 0 = 19
            write 0 1 8
            read 0 = 1
            set 0 2 0 = 1
            read 0 = 0
            set 0 2 10 = 0
            # with every EAR
            read 0 = 10
            set 0 2 9 = 10
            # with every EAR but 0
            read 0 = 9
            """);
        SCRIPT.run("promise 31: numbers that are no SQUARES", """
            sheet 0 64 1 = 1
            read 0 = 20
            write 0 0 -1
            read 0 = 0
            write 0 0 64
            read 0 = 0
            write 0 0 4294967296
            read 0 = 0
            ship 0 63
            write 0 0 63
            read 0 = 20
            """);
    }
}
