/** The row in hand: promises 1, 4, 5, 6, 14, 15, 16. */
public final class HandTest {
    private static final Due due = new Due("HandTest");
    private static final int[] NO_COLUMNS = {-1, 8, 9, 256, Integer.MIN_VALUE, Integer.MAX_VALUE};

    public static void main(String[] args) {
        newHandIsNull();
        cellsHoldNumbers();
        clearMakesNull();
        textsGrow();
        textsAreBounded();
        textAndCellReplaceEachOther();
        noSuchColumn();
        due.close();
    }

    private static void newHandIsNull() {
        VersionDesk x = new VersionDesk();
        for (int c = 0; c < 8; c++) {
            Rows.isNull(due, x, c);
        }
    }

    private static void cellsHoldNumbers() {
        VersionDesk x = new VersionDesk();
        long[] values = {0, 1, -1, Long.MAX_VALUE, Long.MIN_VALUE, 1L << 32, 7, 255};
        for (int c = 0; c < 8; c++) {
            due.yes("cell", x.cell(c, values[c]));
        }
        for (int c = 0; c < 8; c++) {
            due.is("kind of a number", x.kind(c), 1);
            due.is("value of a number", x.value(c), values[c]);
            due.is("letter of a number", x.letter(c, 0), -1);
        }
        due.yes("cell again", x.cell(3, 12));
        due.is("value as given last", x.value(3), 12);
        due.is("its neighbour", x.value(4), Long.MIN_VALUE);
    }

    private static void clearMakesNull() {
        VersionDesk x = new VersionDesk();
        for (int c = 0; c < 8; c++) {
            due.yes("fill", c % 2 == 0 ? x.cell(c, 9) : x.text(c, 65, 1));
        }
        x.clear();
        for (int c = 0; c < 8; c++) {
            Rows.isNull(due, x, c);
        }
        due.yes("text on a cleared cell", x.text(1, 66, 1));
        due.is("its length", x.value(1), 1);
        due.is("its letter", x.letter(1, 0), 66);
    }

    private static void textsGrow() {
        VersionDesk x = new VersionDesk();
        due.yes("text of no bytes", x.text(7, -1, 0));
        due.is("kind of an empty TEXT", x.kind(7), 2);
        due.is("value of an empty TEXT", x.value(7), 0);
        due.is("letter of an empty TEXT", x.letter(7, 0), -1);
        due.yes("three of four bytes", x.text(7, 0x01FF0280L, 3));
        due.yes("eight bytes", x.text(7, 0x8182838485868788L, 8));
        due.yes("no more", x.text(7, 5, 0));
        int[] want = {0xFF, 0x02, 0x80, 0x81, 0x82, 0x83, 0x84, 0x85, 0x86, 0x87, 0x88};
        due.is("length", x.value(7), want.length);
        for (int i = 0; i < want.length; i++) {
            due.is("letter " + i, x.letter(7, i), want[i]);
        }
        int[] outside = {-1, want.length, 31, Integer.MIN_VALUE, Integer.MAX_VALUE};
        for (int i : outside) {
            due.is("letter " + i, x.letter(7, i), -1);
        }
        Rows.isNull(due, x, 6);
    }

    private static void textsAreBounded() {
        VersionDesk x = new VersionDesk();
        int[] wrong = {-1, 9, Integer.MIN_VALUE, Integer.MAX_VALUE};
        for (int n : wrong) {
            due.no("text of " + n, x.text(0, 1, n));
            Rows.isNull(due, x, 0);
        }
        for (int i = 0; i < 3; i++) {
            due.yes("eight", x.text(0, 0x4142434445464748L, 8));
        }
        due.no("32", x.text(0, 0, 8));
        due.is("length after a refusal", x.value(0), 24);
        due.yes("31", x.text(0, 0x7172737475767778L, 7));
        due.no("one more", x.text(0, 0, 1));
        due.yes("none more", x.text(0, 0, 0));
        due.is("length", x.value(0), 31);
        due.is("letter 30", x.letter(0, 30), 0x78);
        due.is("letter 24", x.letter(0, 24), 0x72);
        due.is("letter 31", x.letter(0, 31), -1);
        Rows.isNull(due, x, 1);
    }

    private static void textAndCellReplaceEachOther() {
        VersionDesk x = new VersionDesk();
        due.yes("number", x.cell(2, 100));
        due.no("refused text", x.text(2, 65, 9));
        due.is("still a number", x.value(2), 100);
        due.yes("text instead", x.text(2, 65, 1));
        due.is("kind", x.kind(2), 2);
        due.is("length", x.value(2), 1);
        due.yes("number instead", x.cell(2, 0));
        due.is("kind", x.kind(2), 1);
        due.is("value", x.value(2), 0);
        due.is("letter", x.letter(2, 0), -1);
        due.yes("empty text instead", x.text(2, 65, 0));
        due.is("kind", x.kind(2), 2);
        due.is("length", x.value(2), 0);
    }

    private static void noSuchColumn() {
        VersionDesk x = new VersionDesk();
        for (int c : NO_COLUMNS) {
            due.no("cell", x.cell(c, 1));
            due.no("text", x.text(c, 1, 1));
            due.is("value", x.value(c), 0);
            due.is("letter", x.letter(c, 0), -1);
            due.is("kind", x.kind(c), -1);
        }
        for (int c = 0; c < 8; c++) {
            Rows.isNull(due, x, c);
        }
    }
}
