/** Desks and rows that many tests need. */
final class Rows {
    static final int LARGEST = 272;

    private Rows() {
    }

    /** A desk with table 0 of eight TEXTs in page 0. */
    static VersionDesk deskOfTexts() {
        VersionDesk x = new VersionDesk();
        x.create(0, 8, 22222222);
        return x;
    }

    /** A desk with table 0 of one INT in page 0; its versions take 16 bytes while the hand is NULL, and a slot 4. */
    static VersionDesk deskOfSmall() {
        VersionDesk x = new VersionDesk();
        x.create(0, 1, 1);
        return x;
    }

    /** A desk of TEXTs with one version of the largest size in each of its 60 pages; 220 bytes are free in each. */
    static VersionDesk deskWithoutFreePage() {
        VersionDesk x = deskOfTexts();
        ofSize(x, LARGEST);
        for (int p = 0; p < 60; p++) {
            x.put(0, p, 0, 0);
        }
        return x;
    }

    /** The row in hand becomes one whose version takes 16 .. 272 bytes in a table of eight TEXTs. */
    static void ofSize(VersionDesk x, int size) {
        x.clear();
        int left = size - 16;
        for (int c = 0; left > 0; c++) {
            int letters = Math.min(31, left - 1);
            left -= letters + 1;
            longText(x, c, letters);
        }
    }

    /** So many bytes, 'a' .. 'h' over and over but for the last ones, come behind the TEXT of a cell. */
    static void longText(VersionDesk x, int column, int letters) {
        int left = letters;
        while (left > 8) {
            x.text(column, 0x6162636465666768L, 8);
            left -= 8;
        }
        x.text(column, 0x6162636465666768L, left);
    }

    static void isPage(Due due, VersionDesk x, int p, int... want) {
        for (int what = 0; what < 5; what++) {
            due.is("page(" + p + ", " + what + ")", x.page(p, what), want[what]);
        }
    }

    static void isFreePage(Due due, VersionDesk x, int p) {
        isPage(due, x, p, -1, 0, 0, 496, -1);
    }

    static void isNull(Due due, VersionDesk x, int c) {
        due.is("kind(" + c + ")", x.kind(c), 0);
        due.is("value(" + c + ")", x.value(c), 0);
        due.is("letter(" + c + ", 0)", x.letter(c, 0), -1);
    }
}
