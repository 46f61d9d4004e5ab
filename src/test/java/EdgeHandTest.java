/** The edges of promises 1, 4, 5, 6, 14, 15, 16, each sentence by itself. */
public final class EdgeHandTest {
    private static final Due due = new Due("EdgeHandTest");
    private static final int[] NO_COLUMNS = {
        -1, -8, 8, 9, 256, 65536, Integer.MIN_VALUE, Integer.MIN_VALUE + 1, Integer.MAX_VALUE};

    public static void main(String[] args) {
        newObject();
        clearOfAnEmptyHand();
        clearOfAFullHand();
        clearLeavesVersions();
        cellFirstAndLast();
        cellNoSuchColumn();
        cellReplacesAText();
        textFirstAndLast();
        textNoSuchColumn();
        textLowestBytesHighestFirst();
        textOfNoBytes();
        textOfEightBytes();
        textTooSmallOrTooLargeN();
        textJustFull();
        textMoreThan31();
        textOnANumberIsEmptyFirst();
        textOnAGotText();
        valueOfNullAndNoColumn();
        valueOfInts();
        valueOfBools();
        valueOfTexts();
        letterBytes();
        letterNone();
        kinds();
        due.close();
    }

    private static void newObject() {
        due.about("Promise 1: No tables; the row in hand all NULL");
        VersionDesk x = new VersionDesk();
        for (int t = 0; t < 8; t++) {
            due.is("next", x.next(t, -1), -1);
            due.is("put", x.put(t, 0, 0, 0), -2);
            due.no("drop", x.drop(t));
        }
        for (int c = 0; c < 8; c++) {
            Rows.isNull(due, x, c);
        }
        VersionDesk other = Rows.deskOfSmall();
        other.cell(0, 5);
        other.put(0, 1, 1, 1);
        VersionDesk y = new VersionDesk();
        due.is("nothing of another object", y.look(0, 0), -1);
        Rows.isNull(due, y, 0);
        Rows.isFreePage(due, y, 0);
    }

    private static void clearOfAnEmptyHand() {
        due.about("Promise 4: All cells are NULL, of a hand that is NULL already");
        VersionDesk x = new VersionDesk();
        x.clear();
        x.clear();
        for (int c = 0; c < 8; c++) {
            Rows.isNull(due, x, c);
        }
    }

    private static void clearOfAFullHand() {
        due.about("Promise 4: All cells are NULL, of a full hand");
        VersionDesk x = new VersionDesk();
        for (int c = 0; c < 8; c++) {
            if (c % 2 == 0) {
                Rows.longText(x, c, 31);
            } else {
                x.cell(c, -1);
            }
        }
        x.clear();
        for (int c = 0; c < 8; c++) {
            Rows.isNull(due, x, c);
            due.is("letter 30", x.letter(c, 30), -1);
        }
        due.yes("text grows from empty", x.text(0, 0x41, 1));
        due.is("bytes", x.value(0), 1);
    }

    private static void clearLeavesVersions() {
        due.about("Promise 4: clear is of the row in hand alone");
        VersionDesk x = Rows.deskOfSmall();
        x.cell(0, 77);
        due.is("put", x.put(0, 5, 6, 7), 0);
        x.clear();
        due.is("number", x.look(0, 0), 5);
        due.yes("get", x.get(0));
        due.is("value", x.value(0), 77);
    }

    private static void cellFirstAndLast() {
        due.about("Promise 5: the first and the last column");
        VersionDesk x = new VersionDesk();
        due.yes("cell(0)", x.cell(0, 11));
        due.yes("cell(7)", x.cell(7, 17));
        due.is("value(0)", x.value(0), 11);
        due.is("value(7)", x.value(7), 17);
        Rows.isNull(due, x, 1);
        Rows.isNull(due, x, 6);
    }

    private static void cellNoSuchColumn() {
        due.about("Promise 5: false if there is no such column");
        VersionDesk x = new VersionDesk();
        for (int c : NO_COLUMNS) {
            due.no("cell(" + c + ")", x.cell(c, 1));
        }
        for (int c = 0; c < 8; c++) {
            Rows.isNull(due, x, c);
        }
    }

    private static void cellReplacesAText() {
        due.about("Promise 5: A cell becomes an INT, its TEXT is gone");
        VersionDesk x = new VersionDesk();
        Rows.longText(x, 3, 31);
        due.yes("cell", x.cell(3, 0));
        due.is("kind", x.kind(3), 1);
        due.is("value", x.value(3), 0);
        due.is("letter", x.letter(3, 0), -1);
    }

    private static void textFirstAndLast() {
        due.about("Promise 6: the first and the last column");
        VersionDesk x = new VersionDesk();
        due.yes("text(0)", x.text(0, 0x41, 1));
        due.yes("text(7)", x.text(7, 0x5758, 2));
        due.is("value(0)", x.value(0), 1);
        due.is("value(7)", x.value(7), 2);
        due.is("letter(7, 1)", x.letter(7, 1), 0x58);
        Rows.longText(x, 6, 31);
        due.is("31 bytes beside it change nothing", x.letter(7, 0), 0x57);
        Rows.isNull(due, x, 1);
    }

    private static void textNoSuchColumn() {
        due.about("Promise 6: false if there is no such column");
        VersionDesk x = new VersionDesk();
        for (int c : NO_COLUMNS) {
            due.no("text(" + c + ", 1, 1)", x.text(c, 1, 1));
            due.no("text(" + c + ", 1, 0)", x.text(c, 1, 0));
        }
        for (int c = 0; c < 8; c++) {
            Rows.isNull(due, x, c);
        }
    }

    private static void textLowestBytesHighestFirst() {
        due.about("Promise 6: The lowest n bytes, the highest of them first");
        for (int n = 0; n <= 8; n++) {
            VersionDesk x = new VersionDesk();
            due.yes("text of " + n, x.text(2, 0xF1E2D3C4B5A69788L, n));
            due.is("bytes", x.value(2), n);
            for (int i = 0; i < n; i++) {
                long want = 0xF1E2D3C4B5A69788L >>> 8 * (n - 1 - i) & 255;
                due.is("letter " + i + " of " + n, x.letter(2, i), want);
            }
            due.is("none behind", x.letter(2, n), -1);
        }
    }

    private static void textOfNoBytes() {
        due.about("Promise 6: n = 0, nothing comes behind");
        VersionDesk x = new VersionDesk();
        due.yes("text", x.text(1, -1, 0));
        due.is("an empty TEXT", x.kind(1), 2);
        due.is("of no bytes", x.value(1), 0);
        due.yes("text", x.text(1, 0x41, 1));
        due.yes("text", x.text(1, 0x42, 0));
        due.is("bytes", x.value(1), 1);
        due.is("letter", x.letter(1, 0), 0x41);
    }

    private static void textOfEightBytes() {
        due.about("Promise 6: n = 8, all bytes of the long");
        VersionDesk x = new VersionDesk();
        due.yes("text", x.text(1, Long.MIN_VALUE, 8));
        due.is("first", x.letter(1, 0), 0x80);
        due.is("last", x.letter(1, 7), 0);
        due.yes("text", x.text(1, -1, 8));
        due.is("first of the second", x.letter(1, 8), 255);
        due.is("last of the second", x.letter(1, 15), 255);
        due.is("bytes", x.value(1), 16);
    }

    private static void textTooSmallOrTooLargeN() {
        due.about("Promise 6: false if n is not 0 .. 8");
        int[] wrong = {-1, -8, 9, 16, 256, Integer.MIN_VALUE, Integer.MAX_VALUE};
        VersionDesk x = new VersionDesk();
        x.text(0, 0x414243, 3);
        x.cell(2, 5);
        for (int n : wrong) {
            due.no("text of " + n, x.text(0, 0x5A5A5A5A, n));
            due.no("text of " + n + " on NULL", x.text(1, 0x5A5A5A5A, n));
            due.no("text of " + n + " on a number", x.text(2, 0x5A5A5A5A, n));
        }
        due.is("bytes", x.value(0), 3);
        due.is("letter", x.letter(0, 2), 0x43);
        Rows.isNull(due, x, 1);
        due.is("number", x.value(2), 5);
        due.is("kind", x.kind(2), 1);
    }

    private static void textJustFull() {
        due.about("Promise 6: 31 bytes are not more than 31");
        for (int n = 1; n <= 8; n++) {
            VersionDesk x = new VersionDesk();
            Rows.longText(x, 5, 31 - n);
            due.yes("the last " + n, x.text(5, 0x0102030405060708L, n));
            due.is("bytes", x.value(5), 31);
            due.is("last letter", x.letter(5, 30), 8);
            due.yes("none more", x.text(5, 0, 0));
            due.is("bytes", x.value(5), 31);
        }
    }

    private static void textMoreThan31() {
        due.about("Promise 6: false if there would be more than 31");
        for (int n = 1; n <= 8; n++) {
            VersionDesk x = new VersionDesk();
            Rows.longText(x, 5, 32 - n);
            due.no(n + " more", x.text(5, 0x0102030405060708L, n));
            due.is("bytes", x.value(5), 32 - n);
            due.is("none behind", x.letter(5, 32 - n), -1);
            due.is("none in the next cell", x.kind(6), 0);
            due.yes("one less", x.text(5, 0x0102030405060708L, n - 1));
            due.is("bytes", x.value(5), 31);
        }
        VersionDesk y = new VersionDesk();
        Rows.longText(y, 7, 31);
        due.no("one more in the last cell", y.text(7, 0, 1));
        due.is("bytes", y.value(7), 31);
    }

    private static void textOnANumberIsEmptyFirst() {
        due.about("Promise 6: (that of a cell without a TEXT is empty)");
        VersionDesk x = new VersionDesk();
        Rows.longText(x, 0, 31);
        x.cell(0, 31);
        due.yes("text on a number that was a TEXT", x.text(0, 0x7A, 1));
        due.is("kind", x.kind(0), 2);
        due.is("bytes", x.value(0), 1);
        due.is("letter", x.letter(0, 0), 0x7A);
        Rows.longText(x, 1, 31);
        x.clear();
        due.yes("text on NULL that was a TEXT", x.text(1, 0x79, 1));
        due.is("bytes", x.value(1), 1);
        due.yes("no bytes on a number", x.cell(2, 9) && x.text(2, 9, 0));
        due.is("kind", x.kind(2), 2);
        due.is("bytes", x.value(2), 0);
    }

    private static void textOnAGotText() {
        due.about("Promise 6: bytes come behind a TEXT that get brought, and not into its version");
        VersionDesk x = Rows.deskOfTexts();
        Rows.longText(x, 0, 30);
        due.is("put", x.put(0, 0, 0, 0), 0);
        x.clear();
        due.yes("get", x.get(0));
        due.no("two more", x.text(0, 0x4142, 2));
        due.yes("one more", x.text(0, 0x43, 1));
        due.is("bytes", x.value(0), 31);
        due.is("letter 30", x.letter(0, 30), 0x43);
        due.yes("get", x.get(0));
        due.is("bytes", x.value(0), 30);
        due.is("letter 30", x.letter(0, 30), -1);
    }

    private static void valueOfNullAndNoColumn() {
        due.about("Promise 14: 0 for NULL or no such column");
        VersionDesk x = new VersionDesk();
        for (int c = 0; c < 8; c++) {
            x.cell(c, 100 + c);
        }
        for (int c : NO_COLUMNS) {
            due.is("value(" + c + ")", x.value(c), 0);
        }
        x.clear();
        for (int c = 0; c < 8; c++) {
            due.is("value(" + c + ") of NULL", x.value(c), 0);
        }
    }

    private static void valueOfInts() {
        due.about("Promise 14: an INT");
        long[] longs = {Long.MIN_VALUE, -1, 0, 1, 1L << 32, Long.MAX_VALUE};
        VersionDesk x = new VersionDesk();
        for (int c = 0; c < longs.length; c++) {
            x.cell(c, longs[c]);
        }
        for (int c = 0; c < longs.length; c++) {
            due.is("value", x.value(c), longs[c]);
        }
    }

    private static void valueOfBools() {
        due.about("Promise 14: 0 or 1 for a BOOL as it was given last");
        VersionDesk x = new VersionDesk();
        x.create(0, 2, 33);
        x.cell(0, Long.MIN_VALUE);
        x.cell(1, 0);
        due.is("put", x.put(0, 0, 0, 0), 0);
        x.cell(0, 0);
        x.cell(1, 1);
        due.is("put", x.put(0, 0, 0, 0), 1);
        due.yes("get", x.get(0));
        due.is("yes", x.value(0), 1);
        due.is("no", x.value(1), 0);
        due.yes("get", x.get(1));
        due.is("no", x.value(0), 0);
        due.is("yes", x.value(1), 1);
    }

    private static void valueOfTexts() {
        due.about("Promise 14: how many bytes a TEXT has");
        VersionDesk x = new VersionDesk();
        for (int bytes = 0; bytes <= 31; bytes++) {
            due.is("value", x.value(4), bytes);
            due.is("one more", x.text(4, 0xFF, 1) ? 1 : 0, bytes < 31 ? 1 : 0);
        }
        due.is("value", x.value(4), 31);
    }

    private static void letterBytes() {
        due.about("Promise 15: Byte i, 0 .. 255");
        for (int letter = 0; letter < 256; letter++) {
            VersionDesk x = new VersionDesk();
            x.create(0, 1, 2);
            x.text(0, letter | 0xABCD00, 1);
            due.is("letter in hand", x.letter(0, 0), letter);
            x.put(0, 0, 0, 0);
            x.clear();
            x.get(0);
            due.is("letter got", x.letter(0, 0), letter);
        }
    }

    private static void letterNone() {
        due.about("Promise 15: -1 if there is none");
        int[] outside = {-1, -31, 31, 32, 256, Integer.MIN_VALUE, Integer.MAX_VALUE};
        VersionDesk x = new VersionDesk();
        Rows.longText(x, 0, 31);
        Rows.longText(x, 1, 31);
        x.text(2, 0, 0);
        x.text(3, 0x41, 1);
        x.cell(4, 0x41);
        due.is("first", x.letter(1, 0), 0x61);
        due.is("last", x.letter(1, 30), 0x68);
        for (int i : outside) {
            for (int c = 0; c < 8; c++) {
                due.is("letter(" + c + ", " + i + ")", x.letter(c, i), -1);
            }
        }
        due.is("of an empty TEXT", x.letter(2, 0), -1);
        due.is("behind the last", x.letter(3, 1), -1);
        due.is("of a number", x.letter(4, 0), -1);
        due.is("of NULL", x.letter(5, 0), -1);
        for (int c : NO_COLUMNS) {
            due.is("letter(" + c + ", 0)", x.letter(c, 0), -1);
            due.is("letter(" + c + ", -1)", x.letter(c, -1), -1);
        }
    }

    private static void kinds() {
        due.about("Promise 16: 0 NULL, 1 a number, 2 a TEXT; -1 for no such column");
        VersionDesk x = new VersionDesk();
        for (int c : NO_COLUMNS) {
            due.is("kind(" + c + ")", x.kind(c), -1);
        }
        for (int c = 0; c < 8; c++) {
            due.is("NULL", x.kind(c), 0);
            x.cell(c, 0);
            due.is("number 0", x.kind(c), 1);
            x.text(c, 0, 0);
            due.is("empty TEXT", x.kind(c), 2);
            x.cell(c, -1);
            due.is("number -1", x.kind(c), 1);
        }
        x.clear();
        due.is("NULL again", x.kind(7), 0);
    }
}
