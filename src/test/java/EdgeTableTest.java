/** The edges of promises 2 and 3, each sentence by itself. */
public final class EdgeTableTest {
    private static final Due due = new Due("EdgeTableTest");
    private static final int[] NO_TABLES = {-1, -8, 8, 9, 256, 65536, Integer.MIN_VALUE, Integer.MAX_VALUE};

    public static void main(String[] args) {
        createNoSuchNumber();
        createIsThere();
        createManyTooSmallOrTooLarge();
        createDigitIsNoType();
        createEachDigitCounts();
        createHigherDigitsAreFree();
        createColumn0IsTheLowest();
        createNoPageIsFree();
        createLowestPageIsItsFirst();
        dropNotThere();
        dropTakesAllVersions();
        dropFreesAllPages();
        dropLeavesTheOthers();
        dropOfAnEmptyTable();
        dropLeavesTheHand();
        createAgainIsNew();
        due.close();
    }

    private static void createNoSuchNumber() {
        due.about("Promise 2: false if there is no such table number");
        VersionDesk x = new VersionDesk();
        for (int t : NO_TABLES) {
            due.no("create(" + t + ")", x.create(t, 1, 1));
        }
        Rows.isFreePage(due, x, 0);
        for (int t = 0; t < 8; t++) {
            due.yes("create(" + t + ")", x.create(t, 1, 1));
        }
    }

    private static void createIsThere() {
        due.about("Promise 2: false if it is there");
        VersionDesk x = new VersionDesk();
        due.yes("create", x.create(4, 1, 2));
        due.no("the same", x.create(4, 1, 2));
        due.no("another", x.create(4, 2, 11));
        Rows.isFreePage(due, x, 1);
        x.text(0, 65, 1);
        due.is("as it was", x.put(4, 0, 0, 0), 0);
        due.no("also with a version", x.create(4, 1, 2));
        due.is("version", x.look(0, 6), 18);
        due.yes("drop", x.drop(4));
        due.yes("not there any more", x.create(4, 1, 1));
    }

    private static void createManyTooSmallOrTooLarge() {
        due.about("Promise 2: false if many is not 1 .. 8");
        int[] wrong = {0, -1, -8, 9, 10, 256, Integer.MIN_VALUE, Integer.MAX_VALUE};
        VersionDesk x = new VersionDesk();
        for (int many : wrong) {
            due.no("create of " + many, x.create(0, many, 1111111111));
        }
        Rows.isFreePage(due, x, 0);
        due.yes("1", x.create(0, 1, 1));
        due.yes("8", x.create(1, 8, 11111111));
    }

    private static void createDigitIsNoType() {
        due.about("Promise 2: false if a digit (of the lowest many) is no type");
        VersionDesk x = new VersionDesk();
        int[] one = {0, 4, 5, 6, 7, 8, 9, 10, 14, 100, -1, -2, -3, -9, -10, Integer.MIN_VALUE, Integer.MAX_VALUE};
        for (int types : one) {
            due.no("create of 1 from " + types, x.create(0, 1, types));
        }
        due.no("a digit short", x.create(0, 2, 1));
        due.no("a digit short", x.create(0, 8, 1111111));
        Rows.isFreePage(due, x, 0);
        due.yes("1", x.create(0, 1, 1));
        due.yes("2", x.create(1, 1, 2));
        due.yes("3", x.create(2, 1, 3));
    }

    private static void createEachDigitCounts() {
        due.about("Promise 2: false if a digit is no type, whichever it is");
        int[] wrong = {0, 4, 9};
        for (int many = 1; many <= 8; many++) {
            int power = 1;
            for (int c = 0; c < 8; c++) {
                for (int digit : wrong) {
                    VersionDesk x = new VersionDesk();
                    int types = 11111111 + (digit - 1) * power;
                    due.is("create of " + many + " from " + types, x.create(0, many, types) ? 1 : 0, c < many ? 0 : 1);
                }
                power *= 10;
            }
        }
    }

    private static void createHigherDigitsAreFree() {
        due.about("Promise 2: a digit (of the lowest many)");
        VersionDesk x = new VersionDesk();
        due.yes("one of ten digits", x.create(0, 1, 2147483643));
        due.yes("eight of ten digits", x.create(1, 8, 2032132132));
        due.yes("seven, the eighth is 0", x.create(2, 7, 1101111111));
        due.no("eight, the eighth is 0", x.create(3, 8, 1101111111));
        x.cell(0, 7);
        due.is("a BOOL", x.put(0, 0, 0, 0), 0);
        due.is("its size", x.look(0, 6), 17);
    }

    private static void createColumn0IsTheLowest() {
        due.about("Promise 2: the digits of a number, column 0 the lowest");
        VersionDesk x = new VersionDesk();
        due.yes("create", x.create(0, 8, 13312221));
        boolean[] text = {false, true, true, true, false, false, false, false};
        int[] size = {24, 17, 17, 17, 24, 17, 17, 24};
        for (int c = 0; c < 8; c++) {
            x.clear();
            x.cell(c, 1);
            due.is("number in column " + c, x.put(0, 0, 0, 0) >= 0 ? 1 : 0, text[c] ? 0 : 1);
            x.clear();
            x.text(c, 0, 0);
            due.is("TEXT in column " + c, x.put(0, 0, 0, 0) >= 0 ? 1 : 0, text[c] ? 1 : 0);
            due.is("size with column " + c, x.look(c, 6), size[c]);
        }
    }

    private static void createNoPageIsFree() {
        due.about("Promise 2: false if no page is free");
        VersionDesk x = Rows.deskWithoutFreePage();
        due.no("create", x.create(1, 1, 1));
        due.is("not there", x.put(1, 0, 0, 0), -2);
        due.no("not there", x.drop(1));
        due.yes("take from the last page", x.take(256 * 59));
        due.yes("create", x.create(1, 1, 1));
        due.is("its page", x.page(59, 0), 1);
        due.no("again no page", x.create(2, 1, 1));
    }

    private static void createLowestPageIsItsFirst() {
        due.about("Promise 2: (the lowest one is its first)");
        VersionDesk x = new VersionDesk();
        for (int t = 0; t < 6; t++) {
            x.create(t, 1, 1);
            due.is("page " + t, x.page(t, 0), t);
        }
        x.drop(4);
        x.drop(1);
        due.yes("create", x.create(7, 1, 1));
        Rows.isPage(due, x, 1, 7, 0, 0, 496, -1);
        Rows.isFreePage(due, x, 4);
        due.yes("create", x.create(6, 1, 1));
        due.is("page 4", x.page(4, 0), 6);
        due.is("put", x.put(7, 1, 1, 1), 256);
    }

    private static void dropNotThere() {
        due.about("Promise 3: false if it is not there");
        VersionDesk x = new VersionDesk();
        x.create(0, 1, 1);
        x.create(7, 1, 1);
        for (int t : NO_TABLES) {
            due.no("drop(" + t + ")", x.drop(t));
        }
        for (int t = 1; t < 7; t++) {
            due.no("drop(" + t + ")", x.drop(t));
        }
        due.yes("drop(0)", x.drop(0));
        due.no("drop(0) again", x.drop(0));
        due.yes("drop(7)", x.drop(7));
        due.no("drop(7) again", x.drop(7));
    }

    private static void dropTakesAllVersions() {
        due.about("Promise 3: A table goes, with all its versions");
        VersionDesk x = Rows.deskWithoutFreePage();
        due.yes("drop", x.drop(0));
        for (int p = 0; p < 60; p++) {
            due.is("look", x.look(256 * p, 0), -1);
        }
        due.no("get", x.get(0));
        due.no("end", x.end(0, 1, 1));
        due.no("behind", x.behind(0, 1));
        due.no("take", x.take(0));
        due.is("next", x.next(0, -1), -1);
        due.is("next", x.next(0, 0), -1);
        due.is("put", x.put(0, 1, 1, 1), -2);
    }

    private static void dropFreesAllPages() {
        due.about("Promise 3: its pages are free");
        VersionDesk x = Rows.deskWithoutFreePage();
        due.yes("drop", x.drop(0));
        for (int p = 0; p < 60; p++) {
            Rows.isFreePage(due, x, p);
        }
        due.yes("create", x.create(3, 8, 22222222));
        for (int p = 0; p < 3; p++) {
            due.is("put", x.put(3, p, 0, 0), 256 * p);
        }
    }

    private static void dropLeavesTheOthers() {
        due.about("Promise 3: its pages alone");
        VersionDesk x = Rows.deskOfTexts();
        x.create(1, 8, 22222222);
        Rows.ofSize(x, Rows.LARGEST);
        for (int i = 0; i < 3; i++) {
            due.is("put", x.put(0, i, 0, 0), i == 0 ? 0 : 512 * i);
            due.is("put", x.put(1, 10 + i, 0, 0), 256 + 512 * i);
        }
        due.yes("drop", x.drop(0));
        due.is("first", x.next(1, -1), 256);
        due.is("second", x.next(1, 256), 768);
        due.is("third", x.next(1, 768), 1280);
        due.is("no more", x.next(1, 1280), -1);
        for (int i = 0; i < 3; i++) {
            due.is("number", x.look(256 + 512 * i, 0), 10 + i);
            Rows.isFreePage(due, x, 2 * i);
        }
        Rows.isPage(due, x, 5, 1, 1, 1, 220, -1);
        due.is("lowest free page behind it", x.put(1, 13, 0, 0), 0);
        due.is("chain", x.page(5, 4), 0);
    }

    private static void dropOfAnEmptyTable() {
        due.about("Promise 3: a table without versions");
        VersionDesk x = Rows.deskOfSmall();
        due.yes("drop", x.drop(0));
        Rows.isFreePage(due, x, 0);
        due.is("put", x.put(0, 0, 0, 0), -2);
    }

    private static void dropLeavesTheHand() {
        due.about("Promise 3: the row in hand stays");
        VersionDesk x = Rows.deskOfSmall();
        x.cell(0, 5);
        x.put(0, 0, 0, 0);
        x.get(0);
        due.yes("drop", x.drop(0));
        due.is("value", x.value(0), 5);
    }

    private static void createAgainIsNew() {
        due.about("Promise 3: a table made again has nothing of the old one");
        VersionDesk x = Rows.deskOfTexts();
        Rows.ofSize(x, Rows.LARGEST);
        due.is("put", x.put(0, 1, 0, 0), 0);
        due.is("put", x.put(0, 2, 0, 0), 256);
        due.yes("drop", x.drop(0));
        due.yes("create", x.create(0, 1, 1));
        Rows.isPage(due, x, 0, 0, 0, 0, 496, -1);
        Rows.isFreePage(due, x, 1);
        due.is("no version in slot 0", x.look(0, 0), -1);
        due.no("no version in slot 0", x.get(0));
        due.no("no version in slot 0", x.take(0));
        due.is("next", x.next(0, -1), -1);
        due.is("TEXT in an INT", x.put(0, 0, 0, 0), -2);
        x.cell(0, 9);
        due.is("put", x.put(0, 3, 0, 0), 0);
        due.yes("get", x.get(0));
        due.is("value", x.value(0), 9);
        due.is("cells behind its columns", x.kind(1), 0);
    }
}
