/** Versions and what is known of them: promises 7, 8, 9, 10, 11, 12. */
public final class VersionTest {
    private static final Due due = new Due("VersionTest");
    private static final int[] NO_PLACES = {
        -1, -2, 1, 119, 120, 255, 256, 15359, 15360, 15616, Integer.MIN_VALUE, Integer.MAX_VALUE};
    private static final int[] NO_SHORTS = {-1, 65536, Integer.MIN_VALUE, Integer.MAX_VALUE};

    public static void main(String[] args) {
        putKeepsItsNumbers();
        putRefuses();
        putRefusesKinds();
        sizes();
        getBringsTheRow();
        cellsLieBehindEachOther();
        boolsAreZeroOrOne();
        endsAndBehinds();
        noVersionAtPlace();
        takenIsGone();
        nothingOldInUsedBytes();
        due.close();
    }

    private static VersionDesk deskWith(int many, int types) {
        VersionDesk x = new VersionDesk();
        due.yes("create", x.create(0, many, types));
        return x;
    }

    private static void looksLike(VersionDesk x, int place, int[] want) {
        for (int what = 0; what < 8; what++) {
            due.is("look(" + place + ", " + what + ")", x.look(place, what), want[what]);
        }
    }

    private static void putKeepsItsNumbers() {
        VersionDesk x = deskWith(1, 1);
        due.yes("create", x.create(6, 1, 1));
        due.is("put", x.put(6, Integer.MAX_VALUE, 65535, 65535), 256);
        due.is("put", x.put(6, 0, 0, 0), 257);
        due.is("put", x.put(6, 0x01020384, 0x8182, 0x0184), 258);
        due.is("put", x.put(0, 1, 2, 3), 0);
        looksLike(x, 256, new int[] {Integer.MAX_VALUE, 65535, 65535, 0, 0, -1, 16, 6});
        looksLike(x, 257, new int[] {0, 0, 0, 0, 0, -1, 16, 6});
        looksLike(x, 258, new int[] {0x01020384, 0x8182, 0x0184, 0, 0, -1, 16, 6});
        looksLike(x, 0, new int[] {1, 2, 3, 0, 0, -1, 16, 0});
        int[] wrong = {-1, 8, 9, Integer.MIN_VALUE, Integer.MAX_VALUE};
        for (int what : wrong) {
            due.is("look for " + what, x.look(256, what), -1);
        }
    }

    private static void putRefuses() {
        VersionDesk x = deskWith(1, 1);
        int[] tables = {-1, 1, 7, 8, Integer.MIN_VALUE, Integer.MAX_VALUE};
        for (int table : tables) {
            due.is("put in " + table, x.put(table, 0, 0, 0), -2);
        }
        due.is("number", x.put(0, -1, 0, 0), -2);
        due.is("number", x.put(0, Integer.MIN_VALUE, 0, 0), -2);
        for (int wrong : NO_SHORTS) {
            due.is("maker " + wrong, x.put(0, 0, wrong, 0), -2);
            due.is("command " + wrong, x.put(0, 0, 0, wrong), -2);
        }
        due.is("nothing put", x.page(0, 1), 0);
        due.is("nothing put", x.page(0, 3), 496);
    }

    private static void putRefusesKinds() {
        VersionDesk x = deskWith(3, 321);
        due.is("all NULL", x.put(0, Integer.MAX_VALUE, 0, 0), 0);
        due.yes("a cell behind the columns", x.cell(3, 5));
        due.is("put beside it", x.put(0, 0, 0, 0), 1);
        due.is("does not touch its neighbour", x.look(0, 0), Integer.MAX_VALUE);
        due.yes("take", x.take(1));
        for (int c = 0; c < 3; c++) {
            x.clear();
            due.yes("cell", x.cell(c, 1));
            due.is("a number in column " + c, x.put(0, 0, 0, 0) == -2 ? 1 : 0, c == 1 ? 1 : 0);
            x.clear();
            due.yes("text", x.text(c, 1, 0));
            due.is("a TEXT in column " + c, x.put(0, 0, 0, 0) == -2 ? 1 : 0, c == 1 ? 0 : 1);
        }
        x.clear();
        for (int c = 3; c < 8; c++) {
            due.yes("behind the columns", c % 2 == 0 ? x.cell(c, 1) : x.text(c, 1, 8));
        }
        due.is("cells behind the columns are free", x.put(0, 0, 0, 0), 4);
        due.is("and not packed", x.look(4, 6), 16);
        due.is("the hand stays", x.value(7), 8);
        due.yes("get", x.get(4));
        for (int c = 0; c < 8; c++) {
            due.is("kind " + c, x.kind(c), 0);
        }
    }

    private static void sizes() {
        VersionDesk x = deskWith(8, 33221121);
        int[] want = {24, 17, 24, 24, 17, 17, 17, 17};
        for (int c = 0; c < 8; c++) {
            x.clear();
            due.yes("one cell", isText(c) ? x.text(c, 0, 0) : x.cell(c, 0));
            due.is("put", x.put(0, 0, 0, 0), c);
            due.is("size with column " + c, x.look(c, 6), want[c]);
        }
        due.is("bytes", x.page(0, 3), 496 - 32 - 157);
        x.clear();
        due.yes("text", x.text(1, -1, 8));
        due.yes("text", x.text(1, -1, 5));
        due.is("put", x.put(0, 0, 0, 0), 8);
        due.is("size with 13 bytes", x.look(8, 6), 30);
    }

    private static boolean isText(int column) {
        return column == 1 || column == 4 || column == 5;
    }

    private static void getBringsTheRow() {
        VersionDesk x = deskWith(4, 2121);
        due.yes("cell", x.cell(0, Long.MIN_VALUE + 5));
        due.yes("text", x.text(1, 0x00FF80017FL, 5));
        due.yes("text", x.text(3, 0, 0));
        due.is("put", x.put(0, 0, 0, 0), 0);
        for (int c = 0; c < 8; c++) {
            due.yes("other row", c % 2 == 0 ? x.text(c, 0x4141, 2) : x.cell(c, 77));
        }
        due.no("none there", x.get(1));
        due.is("the hand stays", x.value(7), 77);
        due.yes("get", x.get(0));
        int[] kinds = {1, 2, 0, 2, 0, 0, 0, 0};
        for (int c = 0; c < 8; c++) {
            due.is("kind " + c, x.kind(c), kinds[c]);
        }
        due.is("INT", x.value(0), Long.MIN_VALUE + 5);
        int[] letters = {0x00, 0xFF, 0x80, 0x01, 0x7F, -1};
        for (int i = 0; i < letters.length; i++) {
            due.is("letter " + i, x.letter(1, i), letters[i]);
        }
        due.is("length", x.value(1), 5);
        due.is("NULL", x.value(2), 0);
        due.is("empty", x.value(3), 0);
        due.is("behind the columns", x.value(7), 0);
    }

    private static void cellsLieBehindEachOther() {
        VersionDesk x = deskWith(6, 213212);
        due.yes("text", x.text(0, 0xF1F2F3L, 3));
        due.yes("cell", x.cell(1, 0x0102030405060708L));
        due.yes("text", x.text(2, 0xE1E2L, 2));
        due.yes("cell", x.cell(3, -9));
        due.yes("cell", x.cell(4, -1));
        due.yes("text", x.text(5, 0xD1L, 1));
        due.is("put", x.put(0, 0, 0, 0), 0);
        due.is("put its twin in front", x.put(0, 1, 0, 0), 1);
        for (int place = 0; place < 2; place++) {
            x.clear();
            due.yes("get", x.get(place));
            due.is("letter", x.letter(0, 0), 0xF1);
            due.is("letter", x.letter(0, 1), 0xF2);
            due.is("letter", x.letter(0, 2), 0xF3);
            due.is("INT", x.value(1), 0x0102030405060708L);
            due.is("letter", x.letter(2, 0), 0xE1);
            due.is("letter", x.letter(2, 1), 0xE2);
            due.is("BOOL", x.value(3), 1);
            due.is("INT", x.value(4), -1);
            due.is("letter", x.letter(5, 0), 0xD1);
            due.is("lengths", x.value(0) + 10 * x.value(2) + 100 * x.value(5), 123);
        }
    }

    private static void boolsAreZeroOrOne() {
        VersionDesk x = deskWith(2, 13);
        long[] values = {0, 1, 2, 256, -1, Long.MIN_VALUE, 1L << 32};
        for (int i = 0; i < values.length; i++) {
            x.clear();
            due.yes("cell", x.cell(0, values[i]));
            due.yes("cell", x.cell(1, values[i]));
            due.is("put", x.put(0, 0, 0, 0), i);
            due.is("the hand stays as it was given", x.value(0), values[i]);
            due.yes("get", x.get(i));
            due.is("BOOL of " + values[i], x.value(0), values[i] == 0 ? 0 : 1);
            due.is("kind", x.kind(0), 1);
            due.is("INT of " + values[i], x.value(1), values[i]);
        }
    }

    private static void endsAndBehinds() {
        VersionDesk x = deskWith(1, 1);
        due.yes("cell", x.cell(0, 42));
        due.is("put", x.put(0, 5, 6, 7), 0);
        due.is("put", x.put(0, 8, 9, 10), 1);
        due.yes("end", x.end(0, 65535, 0));
        looksLike(x, 0, new int[] {5, 6, 7, 65535, 0, -1, 24, 0});
        due.yes("end again", x.end(0, 0x8081, 65535));
        for (int wrong : NO_SHORTS) {
            due.no("end by " + wrong, x.end(0, wrong, 1));
            due.no("end command " + wrong, x.end(0, 1, wrong));
        }
        due.yes("behind", x.behind(0, 15359));
        looksLike(x, 0, new int[] {5, 6, 7, 0x8081, 65535, 15359, 24, 0});
        int[] wrong = {-2, 15360, 65535, Integer.MIN_VALUE, Integer.MAX_VALUE};
        for (int other : wrong) {
            due.no("behind " + other, x.behind(0, other));
        }
        due.is("behind stays", x.look(0, 5), 15359);
        due.yes("behind", x.behind(0, 255));
        due.is("any place", x.look(0, 5), 255);
        due.yes("behind", x.behind(0, 0));
        due.is("place 0, itself", x.look(0, 5), 0);
        due.yes("behind", x.behind(0, -1));
        due.is("none", x.look(0, 5), -1);
        looksLike(x, 1, new int[] {8, 9, 10, 0, 0, -1, 24, 0});
        x.clear();
        due.yes("get", x.get(0));
        due.is("the row is as it was", x.value(0), 42);
    }

    private static void noVersionAtPlace() {
        VersionDesk x = deskWith(1, 1);
        due.is("put", x.put(0, 5, 6, 7), 0);
        due.yes("cell", x.cell(4, 4));
        for (int place : NO_PLACES) {
            due.no("get " + place, x.get(place));
            due.no("end " + place, x.end(place, 1, 1));
            due.no("behind " + place, x.behind(place, 0));
            due.no("take " + place, x.take(place));
            for (int what = -1; what < 9; what++) {
                due.is("look " + place, x.look(place, what), -1);
            }
        }
        due.is("the hand stays", x.value(4), 4);
        looksLike(x, 0, new int[] {5, 6, 7, 0, 0, -1, 16, 0});
    }

    private static void takenIsGone() {
        VersionDesk x = deskWith(2, 21);
        for (int i = 0; i < 5; i++) {
            x.clear();
            due.yes("cell", x.cell(0, 1000 + i));
            due.yes("text", x.text(1, 0x6162636465666768L, 1 + i));
            due.is("put", x.put(0, i, 10 + i, 20 + i), i);
            due.yes("end", x.end(i, 30 + i, 40 + i));
            due.yes("behind", x.behind(i, 50 + i));
        }
        due.yes("take", x.take(2));
        due.no("take again", x.take(2));
        due.no("get", x.get(2));
        due.yes("take", x.take(0));
        int[] left = {1, 3, 4};
        for (int i : left) {
            looksLike(x, i, new int[] {i, 10 + i, 20 + i, 30 + i, 40 + i, 50 + i, 26 + i, 0});
            due.yes("get", x.get(i));
            due.is("INT", x.value(0), 1000 + i);
            due.is("length", x.value(1), 1 + i);
            due.is("last letter", x.letter(1, i), 0x68);
        }
        x.clear();
        due.is("lowest free slot", x.put(0, 99, 1, 1), 0);
        looksLike(x, 0, new int[] {99, 1, 1, 0, 0, -1, 16, 0});
        due.yes("get", x.get(0));
        due.is("nothing old in it", x.kind(0), 0);
        due.yes("take one packed before it", x.take(1));
        due.yes("cell", x.cell(0, -1));
        due.is("put over where it was", x.put(0, 77, 7, 7), 1);
        looksLike(x, 0, new int[] {99, 1, 1, 0, 0, -1, 16, 0});
    }

    private static void nothingOldInUsedBytes() {
        VersionDesk x = deskWith(1, 1);
        due.yes("cell", x.cell(0, -1));
        due.is("put", x.put(0, Integer.MAX_VALUE, 65535, 65535), 0);
        due.yes("end", x.end(0, 65535, 65535));
        due.yes("behind", x.behind(0, 15359));
        due.yes("take", x.take(0));
        due.is("put", x.put(0, 0, 0, 0), 0);
        looksLike(x, 0, new int[] {0, 0, 0, 0, 0, -1, 24, 0});
        due.yes("take", x.take(0));
        x.clear();
        due.is("put", x.put(0, 0, 0, 0), 0);
        due.yes("get", x.get(0));
        due.is("NULL", x.kind(0), 0);
    }
}
