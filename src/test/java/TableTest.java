/** Tables: promises 1, 2, 3. */
public final class TableTest {
    private static final Due due = new Due("TableTest");
    private static final int[] NO_TABLES = {-1, 8, 100, Integer.MIN_VALUE, Integer.MAX_VALUE};

    public static void main(String[] args) {
        newDeskHasNoTables();
        createTakesTheLowestPage();
        createRefuses();
        digitsAreTypes();
        createNeedsAPage();
        dropFreesAll();
        due.close();
    }

    private static void newDeskHasNoTables() {
        VersionDesk x = new VersionDesk();
        for (int t = -1; t <= 8; t++) {
            due.is("put", x.put(t, 0, 0, 0), -2);
            due.is("next", x.next(t, -1), -1);
            due.no("drop", x.drop(t));
        }
        for (int p = 0; p < 60; p++) {
            Rows.isFreePage(due, x, p);
        }
    }

    private static void createTakesTheLowestPage() {
        VersionDesk x = new VersionDesk();
        for (int t = 7; t >= 0; t--) {
            due.yes("create", x.create(t, 1, 1));
            due.is("its page", x.page(7 - t, 0), t);
        }
        due.is("slots", x.page(0, 1), 0);
        due.is("versions", x.page(0, 2), 0);
        due.is("bytes", x.page(0, 3), 496);
        due.is("page behind", x.page(0, 4), -1);
        Rows.isFreePage(due, x, 8);
        due.yes("drop", x.drop(5));
        due.yes("drop", x.drop(3));
        due.yes("create", x.create(3, 2, 11));
        due.is("lowest free page", x.page(2, 0), 3);
        Rows.isFreePage(due, x, 4);
    }

    private static void createRefuses() {
        VersionDesk x = new VersionDesk();
        for (int t : NO_TABLES) {
            due.no("create " + t, x.create(t, 1, 1));
            due.no("drop " + t, x.drop(t));
        }
        int[] many = {0, -1, 9, 10, Integer.MIN_VALUE, Integer.MAX_VALUE};
        for (int m : many) {
            due.no("create of " + m, x.create(0, m, 1111111111));
        }
        Rows.isFreePage(due, x, 0);
        due.yes("create", x.create(0, 1, 2));
        due.no("create again", x.create(0, 1, 1));
        x.clear();
        due.yes("text", x.text(0, 65, 1));
        due.is("still with its types", x.put(0, 0, 0, 0), 0);
        Rows.isFreePage(due, x, 1);
    }

    private static void digitsAreTypes() {
        VersionDesk x = new VersionDesk();
        int[] wrong = {0, 4, 5, 9, 10, 14, 40, 41, 101, -1, -11, -123, Integer.MIN_VALUE};
        for (int types : wrong) {
            due.no("create of " + types, x.create(0, 2, types));
        }
        due.no("one digit short", x.create(0, 4, 123));
        due.no("highest digit wrong", x.create(0, 8, 41111111));
        due.yes("higher digits are free", x.create(0, 2, 1999999921));
        due.yes("eight digits", x.create(1, 8, 12312312));
        due.yes("one digit", x.create(2, 1, 3));
        due.yes("INT", x.cell(0, 5));
        due.yes("TEXT", x.text(1, 65, 1));
        due.is("column 0 is the lowest", x.put(0, 0, 0, 0), 0);
        due.is("size", x.look(0, 6), 26);
    }

    private static void createNeedsAPage() {
        VersionDesk x = new VersionDesk();
        due.yes("create", x.create(0, 8, 22222222));
        Rows.ofSize(x, Rows.LARGEST);
        for (int p = 0; p < 60; p++) {
            due.is("put", x.put(0, p, 0, 0), 256 * p);
        }
        due.is("no room", x.put(0, 60, 0, 0), -1);
        due.no("no page", x.create(1, 1, 1));
        due.is("not there", x.next(1, -1), -1);
        due.no("not there", x.drop(1));
        due.yes("take", x.take(256 * 31));
        due.yes("a page", x.create(1, 1, 1));
        due.is("that page", x.page(31, 0), 1);
        due.no("no page", x.create(2, 1, 1));
        due.yes("drop", x.drop(0));
        due.yes("a page", x.create(2, 1, 1));
        due.is("the lowest", x.page(0, 0), 2);
    }

    private static void dropFreesAll() {
        VersionDesk x = new VersionDesk();
        due.yes("create", x.create(0, 8, 22222222));
        due.yes("create", x.create(1, 8, 22222222));
        Rows.ofSize(x, Rows.LARGEST);
        due.is("put", x.put(0, 1, 0, 0), 0);
        due.is("put", x.put(1, 2, 0, 0), 256);
        due.is("put", x.put(0, 3, 0, 0), 512);
        due.is("put", x.put(1, 4, 0, 0), 768);
        due.yes("drop", x.drop(0));
        due.no("drop again", x.drop(0));
        Rows.isFreePage(due, x, 0);
        Rows.isFreePage(due, x, 2);
        due.no("version gone", x.get(0));
        due.is("version gone", x.look(512, 0), -1);
        due.is("next", x.next(0, -1), -1);
        due.is("put", x.put(0, 1, 0, 0), -2);
        due.is("the other stays", x.look(256, 0), 2);
        due.is("the other stays", x.look(768, 0), 4);
        due.is("its chain", x.page(1, 4), 3);
        due.yes("create anew", x.create(0, 1, 1));
        due.is("empty", x.next(0, -1), -1);
        due.is("no slots", x.page(0, 1), 0);
        due.is("no versions", x.page(0, 2), 0);
        due.is("all bytes free", x.page(0, 3), 496);
        due.is("no version", x.look(0, 0), -1);
    }
}
