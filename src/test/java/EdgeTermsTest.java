/** The bounds that the document's "Terms" name, each sentence by itself. */
public final class EdgeTermsTest {
    private static final Due due = new Due("EdgeTermsTest");

    public static void main(String[] args) {
        tables();
        columns();
        types();
        handHasEightCells();
        cellsAreNullAtFirst();
        intsAreLongs();
        textsHave0To31Bytes();
        boolsAreYesOrNo();
        pages();
        pagesAreFreeAtFirst();
        pageIsOfOneTable();
        slotsNoneAtFirst();
        slotsAtMost120();
        pageHas496Bytes();
        slotTakesFourBytes();
        sizes();
        places();
        numbersFrom0On();
        shorts();
        behindOrNone();
        due.close();
    }

    private static void tables() {
        due.about("TABLES are 0 .. 7, each there or not");
        VersionDesk x = new VersionDesk();
        due.no("create(-1)", x.create(-1, 1, 1));
        due.no("create(8)", x.create(8, 1, 1));
        due.yes("create(0)", x.create(0, 1, 1));
        due.yes("create(7)", x.create(7, 1, 1));
        for (int t = -1; t <= 8; t++) {
            boolean there = t == 0 || t == 7;
            due.is("put in " + t, x.put(t, 1, 1, 1), there ? (t == 0 ? 0 : 256) : -2);
            due.is("next of " + t, x.next(t, -1), there ? (t == 0 ? 0 : 256) : -1);
        }
        for (int t = -1; t <= 8; t++) {
            due.is("drop of " + t, x.drop(t) ? 1 : 0, t == 0 || t == 7 ? 1 : 0);
        }
    }

    private static void columns() {
        due.about("a table has 1 .. 8 COLUMNS");
        for (int many = -1; many <= 10; many++) {
            VersionDesk x = new VersionDesk();
            boolean fits = many >= 1 && many <= 8;
            due.is("create with " + many, x.create(0, many, 1111111111) ? 1 : 0, fits ? 1 : 0);
            for (int c = 0; c < 8; c++) {
                x.cell(c, 100 + c);
            }
            due.is("put", x.put(0, 0, 0, 0), fits ? 0 : -2);
            due.is("size", x.look(0, 6), fits ? 16 + 8 * many : -1);
        }
    }

    private static void types() {
        due.about("a TYPE: 1 INT, 2 TEXT, 3 BOOL");
        for (int type = 0; type <= 9; type++) {
            VersionDesk x = new VersionDesk();
            due.is("create of type " + type, x.create(0, 1, type) ? 1 : 0, type >= 1 && type <= 3 ? 1 : 0);
            if (type >= 1 && type <= 3) {
                x.cell(0, 9);
                due.is("number as type " + type, x.put(0, 0, 0, 0), type == 2 ? -2 : 0);
                due.is("its size", x.look(0, 6), type == 1 ? 24 : type == 3 ? 17 : -1);
                x.text(0, 9, 1);
                due.is("TEXT as type " + type, x.put(0, 0, 0, 0), type == 2 ? 0 : -2);
            }
        }
    }

    private static void handHasEightCells() {
        due.about("The ROW IN HAND has 8 cells");
        VersionDesk x = new VersionDesk();
        for (int c = -1; c <= 8; c++) {
            due.is("cell(" + c + ")", x.cell(c, 50 + c) ? 1 : 0, c >= 0 && c < 8 ? 1 : 0);
        }
        for (int c = -1; c <= 8; c++) {
            due.is("value(" + c + ")", x.value(c), c >= 0 && c < 8 ? 50 + c : 0);
            due.is("kind(" + c + ")", x.kind(c), c >= 0 && c < 8 ? 1 : -1);
        }
    }

    private static void cellsAreNullAtFirst() {
        due.about("each NULL (at first)");
        for (int c = 0; c < 8; c++) {
            Rows.isNull(due, new VersionDesk(), c);
        }
    }

    private static void intsAreLongs() {
        due.about("an INT (a long)");
        long[] longs = {
            Long.MIN_VALUE, Long.MIN_VALUE + 1, Integer.MIN_VALUE - 1L, Integer.MIN_VALUE, -256, -1, 0, 1, 127, 128,
            255, 256, Integer.MAX_VALUE, Integer.MAX_VALUE + 1L, 1L << 32, Long.MAX_VALUE - 1, Long.MAX_VALUE};
        VersionDesk x = Rows.deskOfSmall();
        for (int i = 0; i < longs.length; i++) {
            x.cell(0, longs[i]);
            due.is("value in hand", x.value(0), longs[i]);
            due.is("put", x.put(0, 0, 0, 0), i);
        }
        for (int i = 0; i < longs.length; i++) {
            x.clear();
            due.yes("get", x.get(i));
            due.is("value got", x.value(0), longs[i]);
        }
    }

    private static void textsHave0To31Bytes() {
        due.about("a TEXT (0 .. 31 bytes)");
        int[] lengths = {0, 1, 30, 31};
        for (int length : lengths) {
            VersionDesk x = Rows.deskOfTexts();
            Rows.longText(x, 7, length);
            due.is("put", x.put(0, 0, 0, 0), 0);
            x.clear();
            due.yes("get", x.get(0));
            due.is("kind", x.kind(7), 2);
            due.is("bytes", x.value(7), length);
            due.is("last letter", x.letter(7, length - 1), length == 0 ? -1 : 0x68);
            due.is("none behind it", x.letter(7, length), -1);
            due.is("neighbour", x.kind(6), 0);
            due.is("grows to 31", x.text(7, 1, 1) ? 1 : 0, length < 31 ? 1 : 0);
        }
    }

    private static void boolsAreYesOrNo() {
        due.about("a BOOL: 0 for no, else yes");
        long[] given = {0, 1, -1, 2, 256, 1L << 32, Long.MIN_VALUE, Long.MAX_VALUE};
        for (long value : given) {
            VersionDesk x = new VersionDesk();
            x.create(0, 1, 3);
            x.cell(0, value);
            due.is("put", x.put(0, 0, 0, 0), 0);
            x.clear();
            due.yes("get", x.get(0));
            due.is("BOOL of " + value, x.value(0), value == 0 ? 0 : 1);
            due.is("no is not NULL", x.kind(0), 1);
        }
    }

    private static void pages() {
        due.about("PAGES are 0 .. 59");
        VersionDesk x = Rows.deskWithoutFreePage();
        due.is("page(0, 0)", x.page(0, 0), 0);
        due.is("page(59, 0)", x.page(59, 0), 0);
        due.is("page(-1, 0)", x.page(-1, 0), -1);
        due.is("page(60, 0)", x.page(60, 0), -1);
        due.is("page(60, 3)", x.page(60, 3), -1);
        due.is("number in page 59", x.look(256 * 59, 0), 59);
        due.is("none in page 60", x.look(256 * 60, 0), -1);
        due.is("no 61st page", x.put(0, 60, 0, 0), -1);
        due.is("none behind page 59", x.page(59, 4), -1);
    }

    private static void pagesAreFreeAtFirst() {
        due.about("PAGES, each FREE (at first)");
        VersionDesk x = new VersionDesk();
        for (int p = 0; p < 60; p++) {
            Rows.isFreePage(due, x, p);
        }
    }

    private static void pageIsOfOneTable() {
        due.about("each FREE or of one table");
        VersionDesk x = Rows.deskOfSmall();
        due.yes("create", x.create(1, 1, 1));
        due.is("put", x.put(0, 1, 0, 0), 0);
        due.is("another table, another page", x.put(1, 2, 0, 0), 256);
        due.is("page 0", x.page(0, 0), 0);
        due.is("page 1", x.page(1, 0), 1);
        due.is("table of version 0", x.look(0, 7), 0);
        due.is("table of version 256", x.look(256, 7), 1);
    }

    private static void slotsNoneAtFirst() {
        due.about("SLOTS 0, 1, .., none at first");
        VersionDesk x = Rows.deskOfSmall();
        Rows.isPage(due, x, 0, 0, 0, 0, 496, -1);
        for (int slot = 0; slot < 24; slot++) {
            due.is("put", x.put(0, 0, 0, 0), slot);
            due.is("slots", x.page(0, 1), slot + 1);
        }
        due.is("put in a page behind", x.put(0, 0, 0, 0), 256);
        due.is("its slots", x.page(1, 1), 1);
    }

    /** 24 slots with the smallest versions fill a page, so that 120 is never reached; no order of calls gets past it. */
    private static void slotsAtMost120() {
        due.about("SLOTS at most 120");
        VersionDesk x = Rows.deskOfSmall();
        for (int i = 0; i < 130; i++) {
            due.is("place", x.put(0, i, 0, 0), 256 * (i / 24) + i % 24);
        }
        for (int i = 0; i < 24; i++) {
            x.take(i);
        }
        for (int i = 0; i < 24; i++) {
            due.is("used again", x.put(0, i, 0, 0), i);
        }
        due.is("slots", x.page(0, 1), 24);
    }

    private static void pageHas496Bytes() {
        due.about("A page has 496 bytes");
        VersionDesk x = Rows.deskOfTexts();
        due.is("free at first", x.page(0, 3), 496);
        Rows.ofSize(x, 272);
        due.is("put", x.put(0, 0, 0, 0), 0);
        Rows.ofSize(x, 216);
        due.is("272 + 4 + 216 + 4", x.put(0, 0, 0, 0), 1);
        due.is("none left", x.page(0, 3), 0);
        VersionDesk y = Rows.deskOfTexts();
        Rows.ofSize(y, 272);
        due.is("put", y.put(0, 0, 0, 0), 0);
        Rows.ofSize(y, 217);
        due.is("one byte too many", y.put(0, 0, 0, 0), 256);
        due.is("free bytes stay", y.page(0, 3), 220);
    }

    private static void slotTakesFourBytes() {
        due.about("each of its slots takes 4 of them");
        VersionDesk x = Rows.deskOfSmall();
        due.is("put", x.put(0, 0, 0, 0), 0);
        due.is("16 and 4", x.page(0, 3), 476);
        due.is("put", x.put(0, 0, 0, 0), 1);
        due.is("twice", x.page(0, 3), 456);
        due.yes("take", x.take(0));
        due.is("a free slot takes them too", x.page(0, 3), 472);
        due.yes("take", x.take(1));
        due.is("also without a version", x.page(0, 3), 488);
        due.is("put", x.put(0, 0, 0, 0), 0);
        due.is("but not twice", x.page(0, 3), 472);
    }

    private static void sizes() {
        due.about("SIZE: 16, and for each column that is not NULL 8 (INT), 1 (BOOL), or 1 and the bytes (TEXT)");
        isSize(1, 1, false, 0, 16);
        isSize(8, 11111111, false, 0, 16);
        isSize(1, 1, true, 0, 24);
        isSize(8, 11111111, true, 0, 80);
        isSize(1, 3, true, 0, 17);
        isSize(8, 33333333, true, 0, 24);
        isSize(1, 2, true, 0, 17);
        isSize(1, 2, true, 1, 18);
        isSize(1, 2, true, 31, 48);
        isSize(8, 22222222, true, 0, 24);
        isSize(8, 22222222, true, 31, 272);
        isSize(3, 321, true, 5, 31);
    }

    /** All columns of the table filled or all NULL; a TEXT has so many letters. Cells behind the columns are filled too. */
    private static void isSize(int many, int types, boolean filled, int letters, int want) {
        VersionDesk x = new VersionDesk();
        x.create(0, many, types);
        int rest = types;
        for (int c = 0; c < 8; c++) {
            if (c < many && filled && rest % 10 == 2) {
                Rows.longText(x, c, letters);
            } else if (c >= many || filled) {
                x.cell(c, Long.MAX_VALUE);
            }
            rest /= 10;
        }
        due.is("put", x.put(0, 0, 0, 0), 0);
        due.is("size with " + types, x.look(0, 6), want);
        due.is("free with " + types, x.page(0, 3), 492 - want);
    }

    private static void places() {
        due.about("A PLACE is 256 * page + slot");
        VersionDesk x = Rows.deskWithoutFreePage();
        x.clear();
        due.is("page 0, slot 1", x.put(0, 100, 0, 0), 1);
        due.is("page 0, slot 0", x.look(0, 0), 0);
        due.is("page 1, slot 0", x.look(256, 0), 1);
        due.is("page 59, slot 0", x.look(15104, 0), 59);
        int[] none = {2, 255, 257, 511, 15105, 15359, 15360, 15361, 15616, 65536, 65537, 1 << 24, -1, -255, -256, -257,
            -15360, Integer.MIN_VALUE, Integer.MIN_VALUE + 1, Integer.MAX_VALUE};
        for (int place : none) {
            due.is("look(" + place + ", 0)", x.look(place, 0), -1);
            due.no("get(" + place + ")", x.get(place));
            due.no("end(" + place + ")", x.end(place, 0, 0));
            due.no("behind(" + place + ")", x.behind(place, 0));
            due.no("take(" + place + ")", x.take(place));
        }
    }

    private static void numbersFrom0On() {
        due.about("a NUMBER (an int from 0 on)");
        int[] numbers = {0, 1, 255, 256, 65535, 65536, 1 << 24, Integer.MAX_VALUE - 1, Integer.MAX_VALUE};
        VersionDesk x = Rows.deskOfSmall();
        for (int i = 0; i < numbers.length; i++) {
            due.is("put", x.put(0, numbers[i], 0, 0), i);
        }
        for (int i = 0; i < numbers.length; i++) {
            due.is("look", x.look(i, 0), numbers[i]);
        }
        due.is("-1", x.put(0, -1, 0, 0), -2);
        due.is("lowest int", x.put(0, Integer.MIN_VALUE, 0, 0), -2);
    }

    private static void shorts() {
        due.about("a MAKER and a COMMAND, an END and an END COMMAND (0 .. 65535 each)");
        int[] shorts = {0, 1, 127, 128, 255, 256, 32767, 32768, 65534, 65535};
        int[] wrong = {-1, -65536, 65536, 65537, Integer.MIN_VALUE, Integer.MAX_VALUE};
        VersionDesk x = Rows.deskOfSmall();
        for (int i = 0; i < shorts.length; i++) {
            due.is("put", x.put(0, 3, shorts[i], 65535 - shorts[i]), i);
            due.yes("end", x.end(i, 65535 - shorts[i], shorts[i]));
        }
        for (int number : wrong) {
            due.is("maker " + number, x.put(0, 3, number, 0), -2);
            due.is("command " + number, x.put(0, 3, 0, number), -2);
            due.no("end " + number, x.end(0, number, 0));
            due.no("end command " + number, x.end(0, 0, number));
        }
        for (int i = 0; i < shorts.length; i++) {
            due.is("maker", x.look(i, 1), shorts[i]);
            due.is("command", x.look(i, 2), 65535 - shorts[i]);
            due.is("end", x.look(i, 3), 65535 - shorts[i]);
            due.is("end command", x.look(i, 4), shorts[i]);
        }
    }

    private static void behindOrNone() {
        due.about("the place of the version BEHIND it, or none");
        VersionDesk x = Rows.deskOfSmall();
        due.is("put", x.put(0, 0, 0, 0), 0);
        due.is("none at first", x.look(0, 5), -1);
        int[] places = {0, 1, 255, 256, 15358, 15359, -1};
        for (int other : places) {
            due.yes("behind", x.behind(0, other));
            due.is("look", x.look(0, 5), other);
        }
    }
}
