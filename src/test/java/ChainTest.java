/** Pages, their slots and chains, and the way through a table: promises 7, 11, 13, 17. */
public final class ChainTest {
    private static final Due due = new Due("ChainTest");

    public static void main(String[] args) {
        pageFillsToItsLastByte();
        freeSlotNeedsNoNewBytes();
        freeSlotTooSmallGoesOn();
        firstPageWithRoom();
        longestChain();
        emptyPagesLeave();
        firstPageStays();
        chainOrderIsNotPageOrder();
        nextSkipsAndRefuses();
        noSuchPage();
        due.close();
    }

    private static void pageFillsToItsLastByte() {
        VersionDesk x = Rows.deskOfTexts();
        Rows.ofSize(x, Rows.LARGEST);
        due.is("put", x.put(0, 1, 0, 0), 0);
        Rows.isPage(due, x, 0, 0, 1, 1, 220, -1);
        Rows.ofSize(x, 217);
        due.is("one byte too many", x.put(0, 2, 0, 0), 256);
        Rows.ofSize(x, 216);
        due.is("just fits", x.put(0, 3, 0, 0), 1);
        Rows.isPage(due, x, 0, 0, 2, 2, 0, 1);
        due.is("size", x.look(1, 6), 216);
        Rows.ofSize(x, 16);
        due.is("no byte left", x.put(0, 4, 0, 0), 257);
        VersionDesk y = Rows.deskOfTexts();
        for (int i = 0; i < 24; i++) {
            due.is("smallest", y.put(0, i, 0, 0), i);
        }
        Rows.isPage(due, y, 0, 0, 24, 24, 16, -1);
        due.is("16 bytes, but none for a slot", y.put(0, 24, 0, 0), 256);
    }

    private static void freeSlotNeedsNoNewBytes() {
        VersionDesk x = Rows.deskOfTexts();
        for (int i = 0; i < 24; i++) {
            due.is("smallest", x.put(0, i, 0, 0), i);
        }
        due.yes("take", x.take(23));
        due.yes("take", x.take(5));
        Rows.isPage(due, x, 0, 0, 24, 22, 48, -1);
        Rows.ofSize(x, 48);
        due.is("all free bytes, lowest free slot", x.put(0, 50, 0, 0), 5);
        Rows.isPage(due, x, 0, 0, 24, 23, 0, -1);
        for (int i = 0; i < 23; i++) {
            due.is("number", x.look(i, 0), i == 5 ? 50 : i);
        }
    }

    private static void freeSlotTooSmallGoesOn() {
        VersionDesk x = Rows.deskOfTexts();
        for (int i = 0; i < 24; i++) {
            due.is("smallest", x.put(0, i, 0, 0), i);
        }
        due.yes("take", x.take(0));
        Rows.ofSize(x, 33);
        due.is("does not fit the free slot", x.put(0, 50, 0, 0), 256);
        Rows.isPage(due, x, 0, 0, 24, 23, 32, 1);
        Rows.ofSize(x, 32);
        due.is("fits", x.put(0, 51, 0, 0), 0);
    }

    private static void firstPageWithRoom() {
        VersionDesk x = Rows.deskOfTexts();
        Rows.ofSize(x, Rows.LARGEST);
        for (int i = 0; i < 4; i++) {
            due.is("one a page", x.put(0, i, 0, 0), 256 * i);
        }
        Rows.ofSize(x, 196);
        due.is("first page", x.put(0, 4, 0, 0), 1);
        due.is("second page", x.put(0, 5, 0, 0), 257);
        due.yes("take", x.take(1));
        due.is("first page again", x.put(0, 6, 0, 0), 1);
        Rows.ofSize(x, 16);
        due.is("rest of the first", x.put(0, 7, 0, 0), 2);
    }

    private static void longestChain() {
        VersionDesk x = Rows.deskOfTexts();
        Rows.ofSize(x, Rows.LARGEST);
        for (int p = 0; p < 60; p++) {
            due.is("one a page", x.put(0, p, 0, 0), 256 * p);
        }
        Rows.ofSize(x, 216);
        for (int p = 0; p < 60; p++) {
            due.is("fill each page", x.put(0, 60 + p, 0, 0), 256 * p + 1);
        }
        due.is("no room", x.put(0, 120, 0, 0), -1);
        Rows.isPage(due, x, 59, 0, 2, 2, 0, -1);
        due.is("the hand stays", x.kind(0), 2);
        due.yes("take", x.take(256 * 59));
        due.yes("take", x.take(256 * 59 + 1));
        Rows.isFreePage(due, x, 59);
        Rows.isPage(due, x, 58, 0, 2, 2, 0, -1);
        due.yes("take", x.take(1));
        due.is("room in front", x.put(0, 121, 0, 0), 1);
        due.is("room at the end", x.put(0, 122, 0, 0), 256 * 59);
    }

    private static void emptyPagesLeave() {
        VersionDesk x = Rows.deskOfTexts();
        Rows.ofSize(x, Rows.LARGEST);
        for (int i = 0; i < 4; i++) {
            due.is("one a page", x.put(0, i, 0, 0), 256 * i);
        }
        due.yes("take from the middle", x.take(512));
        Rows.isFreePage(due, x, 2);
        Rows.isPage(due, x, 1, 0, 1, 1, 220, 3);
        due.is("next goes over it", x.next(0, 256), 768);
        due.yes("take the last", x.take(768));
        Rows.isFreePage(due, x, 3);
        Rows.isPage(due, x, 1, 0, 1, 1, 220, -1);
        due.is("lowest free page", x.put(0, 9, 0, 0), 512);
        Rows.isPage(due, x, 1, 0, 1, 1, 220, 2);
        Rows.isPage(due, x, 2, 0, 1, 1, 220, -1);
    }

    private static void firstPageStays() {
        VersionDesk x = Rows.deskOfTexts();
        Rows.ofSize(x, Rows.LARGEST);
        for (int i = 0; i < 3; i++) {
            due.is("put", x.put(0, i, 0, 0), 256 * i);
        }
        x.clear();
        due.is("put", x.put(0, 3, 0, 0), 1);
        due.yes("take", x.take(0));
        due.yes("take", x.take(1));
        Rows.isPage(due, x, 0, 0, 2, 0, 488, 1);
        due.is("first version", x.next(0, -1), 256);
        due.is("put", x.put(0, 4, 0, 0), 0);
        Rows.isPage(due, x, 0, 0, 2, 1, 472, 1);
        due.yes("take", x.take(0));
        due.yes("take", x.take(512));
        due.yes("take", x.take(256));
        Rows.isPage(due, x, 0, 0, 2, 0, 488, -1);
        due.is("no version", x.next(0, -1), -1);
        due.no("still there", x.create(0, 1, 1));
        due.yes("drop", x.drop(0));
        Rows.isFreePage(due, x, 0);
    }

    private static void chainOrderIsNotPageOrder() {
        VersionDesk x = new VersionDesk();
        due.yes("create", x.create(1, 1, 1));
        due.yes("create", x.create(0, 8, 22222222));
        Rows.ofSize(x, Rows.LARGEST);
        due.is("put", x.put(0, 0, 0, 0), 256);
        due.is("put", x.put(0, 1, 0, 0), 512);
        due.yes("drop", x.drop(1));
        due.is("the lowest page comes last", x.put(0, 2, 0, 0), 0);
        Rows.isPage(due, x, 2, 0, 1, 1, 220, 0);
        due.is("first", x.next(0, -1), 256);
        due.is("second", x.next(0, 256), 512);
        due.is("third", x.next(0, 512), 0);
        due.is("no more", x.next(0, 0), -1);
        due.yes("page 0 is not the first of the chain", x.take(0));
        Rows.isFreePage(due, x, 0);
        Rows.isPage(due, x, 2, 0, 1, 1, 220, -1);
    }

    private static void nextSkipsAndRefuses() {
        VersionDesk x = Rows.deskOfTexts();
        due.is("empty table", x.next(0, -1), -1);
        due.is("empty page", x.next(0, 0), -1);
        due.yes("create", x.create(1, 1, 1));
        Rows.ofSize(x, 100);
        for (int i = 0; i < 6; i++) {
            due.is("put", x.put(0, i, 0, 0), i < 4 ? i : 512 + i - 4);
        }
        due.yes("take", x.take(0));
        due.yes("take", x.take(2));
        due.is("first", x.next(0, -1), 1);
        due.is("behind a free slot", x.next(0, 0), 1);
        due.is("over a free slot", x.next(0, 1), 3);
        due.is("to the next page", x.next(0, 3), 512);
        due.is("behind no slot", x.next(0, 4), 512);
        due.is("highest place of a page", x.next(0, 255), 512);
        due.is("last", x.next(0, 513), -1);
        due.is("highest place of the last", x.next(0, 767), -1);
        int[] outside = {256, 511, 768, 15359, 15360, 15872, -2, Integer.MIN_VALUE, Integer.MAX_VALUE};
        for (int place : outside) {
            due.is("no page of it: " + place, x.next(0, place), -1);
        }
        due.is("another's page", x.next(1, 0), -1);
        int[] tables = {-1, 2, 7, 8, Integer.MIN_VALUE, Integer.MAX_VALUE};
        for (int table : tables) {
            due.is("no table: " + table, x.next(table, -1), -1);
            due.is("no table: " + table, x.next(table, 0), -1);
        }
    }

    private static void noSuchPage() {
        VersionDesk x = Rows.deskOfTexts();
        int[] pages = {-1, 60, 61, Integer.MIN_VALUE, Integer.MAX_VALUE};
        for (int p : pages) {
            for (int what = -1; what < 6; what++) {
                due.is("page " + p, x.page(p, what), -1);
            }
        }
        int[] whats = {-1, 5, 6, Integer.MIN_VALUE, Integer.MAX_VALUE};
        for (int what : whats) {
            due.is("what " + what, x.page(0, what), -1);
            due.is("what " + what, x.page(59, what), -1);
        }
        Rows.isFreePage(due, x, 59);
    }
}
