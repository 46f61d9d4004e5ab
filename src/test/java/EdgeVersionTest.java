/** The edges of promises 7 to 12, each sentence by itself. */
public final class EdgeVersionTest {
    private static final Due due = new Due("EdgeVersionTest");
    private static final int[] NO_SHORTS = {-1, -65535, 65536, 65537, Integer.MIN_VALUE, Integer.MAX_VALUE};

    public static void main(String[] args) {
        putHasNoEndAndNoneBehind();
        putInUsedRoomHasNoEndAndNoneBehind();
        putNoRoom();
        putTableIsNotThere();
        putNumberIsNotAsSaid();
        putMakerIsNotAsSaid();
        putCommandIsNotAsSaid();
        putTextWhereTheTypeIsAnother();
        putNumberWhereTheTypeIsText();
        putNullSuitsEachType();
        putLooksAtItsColumnsAlone();
        putRefusedThoughNoRoom();
        putLeavesTheHand();
        getCellsBehindItsColumns();
        getCellsThatWereNull();
        getNone();
        noneBehindTheSlotsOfAFullPage();
        endEdges();
        endNone();
        endIsNotAsSaid();
        endAgain();
        behindEdges();
        behindNone();
        behindNoSuchPlace();
        behindStaysWhenTheOtherGoes();
        takeNone();
        lookEach();
        lookAnotherWhat();
        lookNone();
        due.close();
    }

    /** Places without a version in the desk of noVersionDesk: no page, no slot, a free slot, a free page. */
    private static final int[] NO_VERSION = {
        1, 3, 119, 120, 121, 255, 256, 257, 511, 512, 15104, 15359, 15360, 15361, 65536, 65538, 16777216,
        -1, -2, -254, -255, -256, -257, -15360, Integer.MIN_VALUE, Integer.MIN_VALUE + 2, Integer.MAX_VALUE};

    /** Versions at 0 and 2, slot 1 is free, page 1 was used and is free. */
    private static VersionDesk noVersionDesk() {
        VersionDesk x = Rows.deskOfTexts();
        x.put(0, 10, 11, 12);
        x.put(0, 20, 21, 22);
        x.put(0, 30, 31, 32);
        Rows.ofSize(x, Rows.LARGEST);
        x.put(0, 40, 41, 42);
        x.put(0, 50, 51, 52);
        x.take(256);
        x.take(3);
        x.take(1);
        x.clear();
        x.cell(6, 66);
        return x;
    }

    private static void looks(VersionDesk x, int place, int... want) {
        for (int what = 0; what < 8; what++) {
            due.is("look(" + place + ", " + what + ")", x.look(place, what), want[what]);
        }
    }

    private static void isNoVersionDesk(VersionDesk x) {
        looks(x, 0, 10, 11, 12, 0, 0, -1, 16, 0);
        looks(x, 2, 30, 31, 32, 0, 0, -1, 16, 0);
        Rows.isPage(due, x, 0, 0, 4, 2, 448, -1);
        Rows.isFreePage(due, x, 1);
        due.is("the hand", x.value(6), 66);
        due.is("the hand", x.kind(0), 0);
    }

    private static void putHasNoEndAndNoneBehind() {
        due.about("Promise 7: with this number, maker and command, no end (0, 0) and none behind");
        VersionDesk x = Rows.deskOfSmall();
        due.is("lowest", x.put(0, 0, 0, 0), 0);
        due.is("highest", x.put(0, Integer.MAX_VALUE, 65535, 65535), 1);
        looks(x, 0, 0, 0, 0, 0, 0, -1, 16, 0);
        looks(x, 1, Integer.MAX_VALUE, 65535, 65535, 0, 0, -1, 16, 0);
    }

    private static void putInUsedRoomHasNoEndAndNoneBehind() {
        due.about("Promise 7: no end (0, 0) and none behind, in room that is used again");
        VersionDesk x = Rows.deskOfSmall();
        x.cell(0, -1);
        due.is("put", x.put(0, Integer.MAX_VALUE, 65535, 65535), 0);
        due.yes("end", x.end(0, 65535, 65535));
        due.yes("behind", x.behind(0, 15359));
        due.yes("take", x.take(0));
        x.clear();
        due.is("put", x.put(0, 0, 0, 0), 0);
        looks(x, 0, 0, 0, 0, 0, 0, -1, 16, 0);
        due.yes("get", x.get(0));
        due.is("NULL", x.kind(0), 0);
    }

    private static void putNoRoom() {
        due.about("Promise 7: -1 if no page has room");
        VersionDesk x = Rows.deskWithoutFreePage();
        due.is("put", x.put(0, 60, 0, 0), -1);
        due.is("and again", x.put(0, 60, 0, 0), -1);
        Rows.isPage(due, x, 0, 0, 1, 1, 220, 1);
        Rows.isPage(due, x, 59, 0, 1, 1, 220, -1);
        due.yes("take", x.take(256 * 59));
        due.is("room in the last page", x.put(0, 60, 0, 0), 256 * 59);
    }

    private static void putTableIsNotThere() {
        due.about("Promise 7: -2 if the table is not there");
        int[] tables = {-1, 0, 2, 7, 8, 9, 256, Integer.MIN_VALUE, Integer.MAX_VALUE};
        VersionDesk x = new VersionDesk();
        x.create(1, 1, 1);
        for (int table : tables) {
            due.is("put in " + table, x.put(table, 0, 0, 0), -2);
        }
        Rows.isPage(due, x, 0, 1, 0, 0, 496, -1);
        due.is("put in 1", x.put(1, 0, 0, 0), 0);
        due.yes("drop", x.drop(1));
        due.is("put in 1", x.put(1, 0, 0, 0), -2);
    }

    private static void putNumberIsNotAsSaid() {
        due.about("Promise 7: -2 if the number is not as said");
        VersionDesk x = Rows.deskOfSmall();
        due.is("-1", x.put(0, -1, 0, 0), -2);
        due.is("-2", x.put(0, -2, 0, 0), -2);
        due.is("lowest int", x.put(0, Integer.MIN_VALUE, 0, 0), -2);
        Rows.isPage(due, x, 0, 0, 0, 0, 496, -1);
        due.is("0", x.put(0, 0, 0, 0), 0);
        due.is("highest int", x.put(0, Integer.MAX_VALUE, 0, 0), 1);
    }

    private static void putMakerIsNotAsSaid() {
        due.about("Promise 7: -2 if the maker is not as said");
        VersionDesk x = Rows.deskOfSmall();
        for (int maker : NO_SHORTS) {
            due.is("maker " + maker, x.put(0, 0, maker, 0), -2);
        }
        Rows.isPage(due, x, 0, 0, 0, 0, 496, -1);
        due.is("0", x.put(0, 0, 0, 1), 0);
        due.is("65535", x.put(0, 0, 65535, 1), 1);
    }

    private static void putCommandIsNotAsSaid() {
        due.about("Promise 7: -2 if the command is not as said");
        VersionDesk x = Rows.deskOfSmall();
        for (int command : NO_SHORTS) {
            due.is("command " + command, x.put(0, 0, 0, command), -2);
        }
        Rows.isPage(due, x, 0, 0, 0, 0, 496, -1);
        due.is("0", x.put(0, 0, 1, 0), 0);
        due.is("65535", x.put(0, 0, 1, 65535), 1);
    }

    private static void putTextWhereTheTypeIsAnother() {
        due.about("Promise 7: -2 if a cell of its columns, not NULL, is a TEXT where the type is another");
        for (int c = 0; c < 8; c++) {
            VersionDesk x = new VersionDesk();
            x.create(0, 8, 31313131);
            x.text(c, 0, 0);
            due.is("an empty TEXT in column " + c, x.put(0, 0, 0, 0), -2);
            x.text(c, 0x41, 1);
            due.is("a TEXT in column " + c, x.put(0, 0, 0, 0), -2);
            Rows.isPage(due, x, 0, 0, 0, 0, 496, -1);
            x.cell(c, 1);
            due.is("a number in column " + c, x.put(0, 0, 0, 0), 0);
        }
    }

    private static void putNumberWhereTheTypeIsText() {
        due.about("Promise 7: -2 .. or the reverse");
        for (int c = 0; c < 8; c++) {
            VersionDesk x = Rows.deskOfTexts();
            x.cell(c, 0);
            due.is("the number 0 in column " + c, x.put(0, 0, 0, 0), -2);
            x.cell(c, 1);
            due.is("a number in column " + c, x.put(0, 0, 0, 0), -2);
            Rows.isPage(due, x, 0, 0, 0, 0, 496, -1);
            x.text(c, 0, 0);
            due.is("an empty TEXT in column " + c, x.put(0, 0, 0, 0), 0);
        }
    }

    private static void putNullSuitsEachType() {
        due.about("Promise 7: a cell .., not NULL, ..");
        VersionDesk x = new VersionDesk();
        x.create(0, 8, 12312312);
        due.is("all NULL", x.put(0, 0, 0, 0), 0);
        due.is("size", x.look(0, 6), 16);
        due.yes("get", x.get(0));
        for (int c = 0; c < 8; c++) {
            Rows.isNull(due, x, c);
        }
    }

    private static void putLooksAtItsColumnsAlone() {
        due.about("Promise 7: a cell of its columns");
        for (int many = 1; many < 8; many++) {
            VersionDesk x = new VersionDesk();
            x.create(0, many, 22222222);
            x.cell(many, 5);
            due.is("a number just behind its columns", x.put(0, 0, 0, 0), 0);
            due.is("size", x.look(0, 6), 16);
            due.is("put beside it", x.put(0, Integer.MAX_VALUE, 65535, 65535), 1);
            due.is("put", x.put(0, 0, 0, 0), 2);
            looks(x, 0, 0, 0, 0, 0, 0, -1, 16, 0);
            looks(x, 1, Integer.MAX_VALUE, 65535, 65535, 0, 0, -1, 16, 0);
            x.cell(many - 1, 5);
            due.is("a number in its last column", x.put(0, 0, 0, 0), -2);
        }
    }

    private static void putRefusedThoughNoRoom() {
        due.about("Promise 7: -2, refused, also where no page has room");
        VersionDesk x = Rows.deskWithoutFreePage();
        due.is("no room", x.put(0, 0, 0, 0), -1);
        due.is("table", x.put(1, 0, 0, 0), -2);
        due.is("number", x.put(0, -1, 0, 0), -2);
        due.is("maker", x.put(0, 0, 65536, 0), -2);
        due.is("command", x.put(0, 0, 0, -1), -2);
        x.cell(7, 1);
        due.is("cell", x.put(0, 0, 0, 0), -2);
    }

    private static void putLeavesTheHand() {
        due.about("Promise 7: the row in hand stays as it is");
        VersionDesk x = new VersionDesk();
        x.create(0, 2, 21);
        x.cell(0, -7);
        x.text(1, 0x4142, 2);
        x.cell(7, 9);
        due.is("put", x.put(0, 0, 0, 0), 0);
        due.is("put", x.put(0, 1, 0, 0), 1);
        due.is("INT", x.value(0), -7);
        due.is("TEXT", x.value(1), 2);
        due.is("letter", x.letter(1, 1), 0x42);
        due.is("behind its columns", x.value(7), 9);
    }

    private static void getCellsBehindItsColumns() {
        due.about("Promise 8: (cells behind its columns are NULL)");
        for (int many = 1; many <= 8; many++) {
            VersionDesk x = new VersionDesk();
            x.create(0, many, 11111111);
            for (int c = 0; c < 8; c++) {
                x.cell(c, 10 + c);
            }
            due.is("put", x.put(0, 0, 0, 0), 0);
            for (int c = 0; c < 8; c++) {
                x.text(c, 0x41, 1);
            }
            due.yes("get", x.get(0));
            for (int c = 0; c < 8; c++) {
                due.is("kind(" + c + ") of " + many, x.kind(c), c < many ? 1 : 0);
                due.is("value(" + c + ") of " + many, x.value(c), c < many ? 10 + c : 0);
            }
        }
    }

    private static void getCellsThatWereNull() {
        due.about("Promise 8: The row of a version comes to hand, its NULLs too");
        for (int c = 0; c < 8; c++) {
            VersionDesk x = Rows.deskOfTexts();
            x.text(c, 0x41 + c, 1);
            due.is("put", x.put(0, 0, 0, 0), 0);
            for (int d = 0; d < 8; d++) {
                x.text(d, 0x7A7A, 2);
            }
            due.yes("get", x.get(0));
            for (int d = 0; d < 8; d++) {
                due.is("kind", x.kind(d), d == c ? 2 : 0);
                due.is("bytes", x.value(d), d == c ? 1 : 0);
                due.is("letter", x.letter(d, 0), d == c ? 0x41 + c : -1);
            }
        }
    }

    private static void getNone() {
        due.about("Promise 8: false if there is none at the place");
        VersionDesk x = noVersionDesk();
        for (int place : NO_VERSION) {
            due.no("get(" + place + ")", x.get(place));
        }
        isNoVersionDesk(x);
        due.yes("get(2)", x.get(2));
        due.is("the hand", x.kind(6), 0);
    }

    private static void noneBehindTheSlotsOfAFullPage() {
        due.about("Promises 8 to 12: none at the place, where the bytes behind the slots are those of a version");
        VersionDesk x = Rows.deskOfTexts();
        Rows.ofSize(x, 272);
        due.is("put", x.put(0, Integer.MAX_VALUE, 65535, 65535), 0);
        Rows.ofSize(x, 216);
        due.is("put", x.put(0, Integer.MAX_VALUE, 65535, 65535), 1);
        due.is("no byte free", x.page(0, 3), 0);
        for (int place = 2; place < 256; place += place < 130 ? 1 : 25) {
            due.is("look(" + place + ", 0)", x.look(place, 0), -1);
            due.no("get(" + place + ")", x.get(place));
            due.no("take(" + place + ")", x.take(place));
        }
        Rows.isPage(due, x, 0, 0, 2, 2, 0, -1);
    }

    private static void endEdges() {
        due.about("Promise 9: A version gets an end and an end command");
        VersionDesk x = Rows.deskOfSmall();
        x.put(0, 1, 2, 3);
        x.put(0, 4, 5, 6);
        due.yes("end", x.end(0, 65535, 0));
        looks(x, 0, 1, 2, 3, 65535, 0, -1, 16, 0);
        due.yes("end", x.end(0, 0, 65535));
        looks(x, 0, 1, 2, 3, 0, 65535, -1, 16, 0);
        looks(x, 1, 4, 5, 6, 0, 0, -1, 16, 0);
    }

    private static void endNone() {
        due.about("Promise 9: false if there is none at the place");
        VersionDesk x = noVersionDesk();
        for (int place : NO_VERSION) {
            due.no("end(" + place + ")", x.end(place, 7, 8));
        }
        isNoVersionDesk(x);
        due.yes("end(2)", x.end(2, 7, 8));
        looks(x, 2, 30, 31, 32, 7, 8, -1, 16, 0);
    }

    private static void endIsNotAsSaid() {
        due.about("Promise 9: false if one is not 0 .. 65535");
        VersionDesk x = Rows.deskOfSmall();
        x.put(0, 1, 2, 3);
        x.end(0, 4, 5);
        for (int wrong : NO_SHORTS) {
            due.no("end by " + wrong, x.end(0, wrong, 9));
            due.no("end command " + wrong, x.end(0, 9, wrong));
            due.no("both " + wrong, x.end(0, wrong, wrong));
        }
        looks(x, 0, 1, 2, 3, 4, 5, -1, 16, 0);
    }

    private static void endAgain() {
        due.about("Promise 9: a version that has an end gets another");
        VersionDesk x = Rows.deskOfSmall();
        x.put(0, 1, 2, 3);
        due.yes("end", x.end(0, 65535, 65535));
        due.yes("end", x.end(0, 0, 0));
        looks(x, 0, 1, 2, 3, 0, 0, -1, 16, 0);
    }

    private static void behindEdges() {
        due.about("Promise 10: any place 0 .. 15359, whether a version is there or not; -1 for none");
        int[] others = {0, 1, 120, 255, 256, 15104, 15358, 15359, -1, 0, -1};
        VersionDesk x = Rows.deskOfSmall();
        x.put(0, 1, 2, 3);
        x.put(0, 4, 5, 6);
        for (int other : others) {
            due.yes("behind " + other, x.behind(0, other));
            looks(x, 0, 1, 2, 3, 0, 0, other, 16, 0);
        }
        looks(x, 1, 4, 5, 6, 0, 0, -1, 16, 0);
    }

    private static void behindNone() {
        due.about("Promise 10: false if there is none at the place");
        VersionDesk x = noVersionDesk();
        for (int place : NO_VERSION) {
            due.no("behind(" + place + ", 0)", x.behind(place, 0));
            due.no("behind(" + place + ", -1)", x.behind(place, -1));
        }
        isNoVersionDesk(x);
        due.yes("behind(2)", x.behind(2, 0));
        looks(x, 2, 30, 31, 32, 0, 0, 0, 16, 0);
    }

    private static void behindNoSuchPlace() {
        due.about("Promise 10: false if no such place");
        int[] wrong = {-2, -256, 15360, 15361, 65534, 65535, 65536, 80895, Integer.MIN_VALUE, Integer.MAX_VALUE};
        VersionDesk x = Rows.deskOfSmall();
        x.put(0, 1, 2, 3);
        x.behind(0, 77);
        for (int other : wrong) {
            due.no("behind " + other, x.behind(0, other));
        }
        looks(x, 0, 1, 2, 3, 0, 0, 77, 16, 0);
    }

    private static void behindStaysWhenTheOtherGoes() {
        due.about("Promise 10: the place behind stays, though the version there goes");
        VersionDesk x = Rows.deskOfSmall();
        x.put(0, 1, 2, 3);
        x.put(0, 4, 5, 6);
        due.yes("behind", x.behind(0, 1));
        due.yes("take", x.take(1));
        due.is("look", x.look(0, 5), 1);
    }

    private static void takeNone() {
        due.about("Promise 11: false if there is none at the place");
        VersionDesk x = noVersionDesk();
        for (int place : NO_VERSION) {
            due.no("take(" + place + ")", x.take(place));
        }
        isNoVersionDesk(x);
        due.yes("take(2)", x.take(2));
        due.no("take(2) again", x.take(2));
        due.yes("take(0)", x.take(0));
        due.no("take(0) again", x.take(0));
        Rows.isPage(due, x, 0, 0, 4, 0, 480, -1);
    }

    private static void lookEach() {
        due.about("Promise 12: 0 the number, 1 the maker, .. 7 its table");
        VersionDesk x = new VersionDesk();
        x.create(0, 1, 1);
        x.create(7, 8, 33333333);
        for (int c = 0; c < 8; c++) {
            x.cell(c, c);
        }
        due.is("put", x.put(7, 0x7F80FF01, 0x80FF, 0xFF80), 256);
        looks(x, 256, 0x7F80FF01, 0x80FF, 0xFF80, 0, 0, -1, 24, 7);
        due.yes("end", x.end(256, 0x8001, 0x01FF));
        due.yes("behind", x.behind(256, 256));
        looks(x, 256, 0x7F80FF01, 0x80FF, 0xFF80, 0x8001, 0x01FF, 256, 24, 7);
        x.clear();
        due.yes("get", x.get(256));
        for (int c = 0; c < 8; c++) {
            due.is("the row, after end and behind", x.kind(c), 1);
            due.is("the row, after end and behind", x.value(c), c == 0 ? 0 : 1);
        }
    }

    private static void lookAnotherWhat() {
        due.about("Promise 12: -1 for another what");
        int[] whats = {-1, -8, 8, 9, 256, Integer.MIN_VALUE, Integer.MAX_VALUE};
        VersionDesk x = Rows.deskOfSmall();
        x.put(0, 1, 2, 3);
        for (int what : whats) {
            due.is("look(0, " + what + ")", x.look(0, what), -1);
        }
    }

    private static void lookNone() {
        due.about("Promise 12: -1 if there is none at the place");
        for (int what = -1; what <= 8; what++) {
            VersionDesk x = noVersionDesk();
            for (int place : NO_VERSION) {
                due.is("look(" + place + ", " + what + ")", x.look(place, what), -1);
            }
        }
    }
}
