/** The edges of promises 13 and 17, the way through a table and the pages, each sentence by itself. */
public final class EdgeWayTest {
    private static final Due due = new Due("EdgeWayTest");

    public static void main(String[] args) {
        nextFirst();
        nextFirstOfAnEmptyTable();
        nextFirstBehindEmptySlotsAndPages();
        nextByTheChain();
        nextBySlots();
        nextBehindAFreeSlot();
        nextBehindTheLastSlot();
        nextNone();
        nextTableIsNotThere();
        nextPlaceOfNoPageOfIt();
        nextOfAFreedPage();
        nextChangesNothing();
        pageTable();
        pageSlots();
        pageVersions();
        pageFreeBytes();
        pageBehind();
        pageNoSuchPage();
        pageNoSuchWhat();
        pageFree();
        due.close();
    }

    private static void nextFirst() {
        due.about("Promise 13: (place = -1: the first one)");
        VersionDesk x = Rows.deskOfSmall();
        x.create(7, 1, 1);
        x.put(0, 1, 0, 0);
        x.put(7, 2, 0, 0);
        x.put(7, 3, 0, 0);
        due.is("of table 0", x.next(0, -1), 0);
        due.is("of table 7", x.next(7, -1), 256);
        due.is("behind place 0 is not the first", x.next(0, 0), -1);
        due.is("behind place 256", x.next(7, 256), 257);
    }

    private static void nextFirstOfAnEmptyTable() {
        due.about("Promise 13: -1 if there is none, in an empty table");
        VersionDesk x = Rows.deskOfSmall();
        due.is("first", x.next(0, -1), -1);
        due.is("behind place 0", x.next(0, 0), -1);
        due.is("behind place 255", x.next(0, 255), -1);
        x.put(0, 1, 0, 0);
        x.take(0);
        due.is("first, of a free slot", x.next(0, -1), -1);
        due.is("behind the free slot", x.next(0, 0), -1);
    }

    private static void nextFirstBehindEmptySlotsAndPages() {
        due.about("Promise 13: the first one, behind free slots and an empty first page");
        VersionDesk x = Rows.deskOfTexts();
        Rows.ofSize(x, Rows.LARGEST);
        for (int p = 0; p < 3; p++) {
            x.put(0, p, 0, 0);
        }
        x.clear();
        x.put(0, 3, 0, 0);
        due.yes("take", x.take(0));
        due.is("first", x.next(0, -1), 1);
        due.yes("take", x.take(1));
        due.is("first", x.next(0, -1), 256);
        due.yes("take", x.take(256));
        due.is("first", x.next(0, -1), 512);
        due.is("behind the empty page's slot 0", x.next(0, 0), 512);
    }

    private static void nextByTheChain() {
        due.about("Promise 13: by the chain");
        VersionDesk x = new VersionDesk();
        x.create(1, 1, 1);
        x.create(2, 1, 1);
        x.create(0, 8, 22222222);
        Rows.ofSize(x, Rows.LARGEST);
        due.is("put", x.put(0, 0, 0, 0), 512);
        due.yes("drop", x.drop(2));
        due.is("put", x.put(0, 1, 0, 0), 256);
        due.is("put", x.put(0, 2, 0, 0), 768);
        due.yes("drop", x.drop(1));
        due.is("put", x.put(0, 3, 0, 0), 0);
        int[] way = {512, 256, 768, 0, -1};
        int place = -1;
        for (int want : way) {
            place = x.next(0, place);
            due.is("next", place, want);
        }
    }

    private static void nextBySlots() {
        due.about("Promise 13: then by slots");
        VersionDesk x = Rows.deskOfSmall();
        for (int i = 0; i < 50; i++) {
            x.put(0, i, 0, 0);
        }
        int place = -1;
        for (int i = 0; i < 50; i++) {
            place = x.next(0, place);
            due.is("next", place, 256 * (i / 24) + i % 24);
        }
        due.is("no more", x.next(0, place), -1);
        due.yes("take slot 5", x.take(5));
        x.put(0, 99, 0, 0);
        due.is("not by age", x.look(x.next(0, 4), 0), 99);
    }

    private static void nextBehindAFreeSlot() {
        due.about("Promise 13: behind a place, with a version there or not");
        VersionDesk x = Rows.deskOfSmall();
        for (int i = 0; i < 6; i++) {
            x.put(0, i, 0, 0);
        }
        x.take(1);
        x.take(2);
        x.take(5);
        int[] want = {3, 3, 3, 4, -1, -1};
        for (int place = 0; place < 6; place++) {
            due.is("next(0, " + place + ")", x.next(0, place), want[place]);
        }
    }

    private static void nextBehindTheLastSlot() {
        due.about("Promise 13: behind a place of its page that has no slot");
        VersionDesk x = Rows.deskOfTexts();
        Rows.ofSize(x, Rows.LARGEST);
        x.put(0, 0, 0, 0);
        x.put(0, 1, 0, 0);
        int[] places = {1, 2, 119, 120, 254, 255};
        for (int place : places) {
            due.is("next(0, " + place + ")", x.next(0, place), 256);
            due.is("next(0, " + (256 + place) + ")", x.next(0, 256 + place), -1);
        }
    }

    private static void nextNone() {
        due.about("Promise 13: -1 if there is none");
        VersionDesk x = Rows.deskWithoutFreePage();
        due.is("behind the last but one", x.next(0, 256 * 58), 256 * 59);
        due.is("behind the last", x.next(0, 256 * 59), -1);
        due.is("behind the highest place", x.next(0, 15359), -1);
        due.yes("take", x.take(256 * 59));
        due.is("behind the last but one", x.next(0, 256 * 58), -1);
    }

    private static void nextTableIsNotThere() {
        due.about("Promise 13: -1 if the table is not there");
        int[] tables = {-1, 1, 6, 8, 9, 256, Integer.MIN_VALUE, Integer.MAX_VALUE};
        VersionDesk x = Rows.deskOfSmall();
        x.create(7, 1, 1);
        x.put(0, 0, 0, 0);
        x.put(0, 1, 0, 0);
        for (int table : tables) {
            due.is("next(" + table + ", -1)", x.next(table, -1), -1);
            due.is("next(" + table + ", 0)", x.next(table, 0), -1);
        }
        due.yes("drop", x.drop(0));
        due.is("next(0, -1)", x.next(0, -1), -1);
        due.is("next(0, 0)", x.next(0, 0), -1);
    }

    private static void nextPlaceOfNoPageOfIt() {
        due.about("Promise 13: -1 if the place is of no page of it");
        VersionDesk x = Rows.deskOfTexts();
        x.create(1, 1, 1);
        Rows.ofSize(x, Rows.LARGEST);
        x.put(0, 0, 0, 0);
        x.put(0, 1, 0, 0);
        x.clear();
        x.put(1, 2, 0, 0);
        x.put(1, 3, 0, 0);
        int[] none = {256, 257, 511, 768, 1023, 15104, 15359, 15360, 15616, 65536, 16777216,
            -2, -3, -255, -256, -257, Integer.MIN_VALUE, Integer.MIN_VALUE + 1, Integer.MAX_VALUE};
        for (int place : none) {
            due.is("next(0, " + place + ")", x.next(0, place), -1);
        }
        int[] noneOfTheOther = {0, 1, 255, 512, 767, 768, 15360, -2, -256};
        for (int place : noneOfTheOther) {
            due.is("next(1, " + place + ")", x.next(1, place), -1);
        }
        due.is("next(0, 0)", x.next(0, 0), 512);
        due.is("next(1, 256)", x.next(1, 256), 257);
    }

    private static void nextOfAFreedPage() {
        due.about("Promise 13: a page that went out of the chain is no page of it");
        VersionDesk x = Rows.deskOfTexts();
        Rows.ofSize(x, Rows.LARGEST);
        for (int p = 0; p < 3; p++) {
            x.put(0, p, 0, 0);
        }
        due.is("next", x.next(0, 256), 512);
        due.yes("take", x.take(256));
        due.is("next behind it", x.next(0, 256), -1);
        due.is("next over it", x.next(0, 0), 512);
    }

    private static void nextChangesNothing() {
        due.about("Promise 13: asked twice, told twice");
        VersionDesk x = Rows.deskOfSmall();
        x.put(0, 0, 0, 0);
        x.put(0, 1, 0, 0);
        for (int i = 0; i < 3; i++) {
            due.is("first", x.next(0, -1), 0);
            due.is("second", x.next(0, 0), 1);
        }
    }

    private static void pageTable() {
        due.about("Promise 17: 0 its table (-1 for none)");
        VersionDesk x = new VersionDesk();
        x.create(7, 1, 1);
        x.create(0, 1, 1);
        due.is("page 0", x.page(0, 0), 7);
        due.is("page 1", x.page(1, 0), 0);
        due.is("page 2", x.page(2, 0), -1);
        due.is("page 59", x.page(59, 0), -1);
    }

    private static void pageSlots() {
        due.about("Promise 17: 1 how many slots, free ones too");
        VersionDesk x = Rows.deskOfSmall();
        due.is("none", x.page(0, 1), 0);
        for (int i = 0; i < 24; i++) {
            x.put(0, i, 0, 0);
        }
        due.is("full", x.page(0, 1), 24);
        for (int i = 0; i < 24; i++) {
            x.take(i);
        }
        due.is("all free", x.page(0, 1), 24);
    }

    private static void pageVersions() {
        due.about("Promise 17: 2 how many versions");
        VersionDesk x = Rows.deskOfSmall();
        for (int i = 0; i < 24; i++) {
            due.is("versions", x.page(0, 2), i);
            x.put(0, i, 0, 0);
        }
        for (int i = 24; i > 0; i--) {
            due.is("versions", x.page(0, 2), i);
            x.take(24 - i);
        }
        due.is("none", x.page(0, 2), 0);
    }

    private static void pageFreeBytes() {
        due.about("Promise 17: 3 how many bytes are free");
        VersionDesk x = Rows.deskOfTexts();
        due.is("all", x.page(0, 3), 496);
        Rows.ofSize(x, 272);
        x.put(0, 0, 0, 0);
        due.is("220", x.page(0, 3), 220);
        Rows.ofSize(x, 216);
        x.put(0, 1, 0, 0);
        due.is("none", x.page(0, 3), 0);
        x.end(0, 65535, 65535);
        x.behind(0, 15359);
        due.is("end and behind take none", x.page(0, 3), 0);
        x.take(0);
        due.is("272", x.page(0, 3), 272);
        x.take(1);
        due.is("but for the slots", x.page(0, 3), 488);
    }

    private static void pageBehind() {
        due.about("Promise 17: 4 the page behind it in the chain (-1 for none)");
        VersionDesk x = Rows.deskWithoutFreePage();
        for (int p = 0; p < 60; p++) {
            due.is("behind page " + p, x.page(p, 4), p == 59 ? -1 : p + 1);
        }
        x.take(256);
        due.is("behind page 0", x.page(0, 4), 2);
        due.is("behind a free page", x.page(1, 4), -1);
        x.put(0, 0, 0, 0);
        due.is("behind page 59", x.page(59, 4), 1);
        due.is("behind page 1", x.page(1, 4), -1);
    }

    private static void pageNoSuchPage() {
        due.about("Promise 17: -1 for no such page");
        int[] pages = {-1, -60, 60, 61, 256, Integer.MIN_VALUE, Integer.MAX_VALUE};
        VersionDesk x = Rows.deskOfSmall();
        for (int p : pages) {
            for (int what = -1; what <= 5; what++) {
                due.is("page(" + p + ", " + what + ")", x.page(p, what), -1);
            }
        }
    }

    private static void pageNoSuchWhat() {
        due.about("Promise 17: -1 for no such what");
        int[] whats = {-1, -4, 5, 6, 256, Integer.MIN_VALUE, Integer.MAX_VALUE};
        VersionDesk x = Rows.deskOfSmall();
        x.put(0, 0, 0, 0);
        for (int what : whats) {
            due.is("of a page of a table", x.page(0, what), -1);
            due.is("of a free page", x.page(59, what), -1);
        }
    }

    private static void pageFree() {
        due.about("Promise 17: for a free page 1, 2, 4 are 0, 0, -1 and 3 is 496");
        VersionDesk x = new VersionDesk();
        Rows.isFreePage(due, x, 0);
        Rows.isFreePage(due, x, 59);
        VersionDesk y = Rows.deskWithoutFreePage();
        y.take(256 * 59);
        Rows.isFreePage(due, y, 59);
        y.take(256 * 30);
        Rows.isFreePage(due, y, 30);
        y.drop(0);
        Rows.isFreePage(due, y, 0);
        Rows.isFreePage(due, y, 29);
    }
}
