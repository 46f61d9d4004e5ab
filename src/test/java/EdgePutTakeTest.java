/** How a version is put and taken, by the document's "Terms", each sentence by itself. */
public final class EdgePutTakeTest {
    private static final Due due = new Due("EdgePutTakeTest");

    public static void main(String[] args) {
        firstPageWithRoom();
        chainNotPageNumberDecides();
        lowestFreeSlot();
        freeSlotJustFits();
        freeSlotOneByteShort();
        freeSlotNeedsNoFourBytes();
        newSlotJustFits();
        newSlotOneByteShort();
        newSlotNeedsFourBytes();
        lowestFreePageComesBehind();
        largestVersionFitsAnEmptyPage();
        emptiedFirstPageHasRoomForTheLargest();
        lastPageOfTheLongestChain();
        noPageLeft();
        takenSlotIsFree();
        takenRoomIsFree();
        lastVersionOfALaterPage();
        lastVersionOfTheMiddlePage();
        lastVersionOfTheFirstPage();
        firstOfItsChainIsNotPage0();
        slotsOfAFreedPageAreGone();
        placesStay();
        due.close();
    }

    private static void put(VersionDesk x, int number, int want) {
        due.is("put of number " + number, x.put(0, number, 0, 0), want);
    }

    private static void fillWithSmallest(VersionDesk x) {
        x.clear();
        for (int slot = 0; slot < 24; slot++) {
            put(x, slot, slot);
        }
    }

    private static void firstPageWithRoom() {
        due.about("into the first page of the chain that has room for it");
        VersionDesk x = Rows.deskOfTexts();
        Rows.ofSize(x, 272);
        for (int p = 0; p < 4; p++) {
            put(x, p, 256 * p);
        }
        Rows.ofSize(x, 216);
        put(x, 10, 1);
        put(x, 11, 257);
        Rows.ofSize(x, 100);
        put(x, 12, 513);
        due.yes("take", x.take(256));
        put(x, 13, 256);
        due.yes("take", x.take(0));
        put(x, 14, 0);
    }

    private static void chainNotPageNumberDecides() {
        due.about("the first page of the chain, not the lowest page");
        VersionDesk x = new VersionDesk();
        x.create(1, 1, 1);
        x.create(0, 8, 22222222);
        Rows.ofSize(x, 272);
        put(x, 0, 256);
        due.yes("drop", x.drop(1));
        put(x, 1, 0);
        Rows.ofSize(x, 100);
        put(x, 2, 257);
        put(x, 3, 258);
        put(x, 4, 1);
    }

    private static void lowestFreeSlot() {
        due.about("in its lowest free slot");
        VersionDesk x = Rows.deskOfSmall();
        for (int slot = 0; slot < 6; slot++) {
            put(x, slot, slot);
        }
        int[] taken = {5, 0, 3, 2};
        for (int slot : taken) {
            due.yes("take", x.take(slot));
        }
        put(x, 10, 0);
        put(x, 11, 2);
        put(x, 12, 3);
        put(x, 13, 5);
        put(x, 14, 6);
    }

    private static void freeSlotJustFits() {
        due.about("in its lowest free slot, if the version fits there: just");
        VersionDesk x = Rows.deskOfTexts();
        fillWithSmallest(x);
        due.yes("take", x.take(7));
        Rows.ofSize(x, 32);
        put(x, 50, 7);
        due.is("no byte free", x.page(0, 3), 0);
        due.is("versions", x.page(0, 2), 24);
    }

    private static void freeSlotOneByteShort() {
        due.about("in its lowest free slot, if the version fits there: one byte too many");
        VersionDesk x = Rows.deskOfTexts();
        fillWithSmallest(x);
        due.yes("take", x.take(7));
        Rows.ofSize(x, 33);
        put(x, 50, 256);
        Rows.isPage(due, x, 0, 0, 24, 23, 32, 1);
    }

    private static void freeSlotNeedsNoFourBytes() {
        due.about("a free slot's 4 bytes are not needed again");
        VersionDesk x = Rows.deskOfSmall();
        for (int slot = 0; slot < 24; slot++) {
            put(x, slot, slot);
        }
        put(x, 24, 256);
        due.yes("take", x.take(23));
        x.cell(0, 1);
        put(x, 25, 23);
        due.is("24 of 32 bytes", x.page(0, 3), 8);
        due.yes("take", x.take(256));
    }

    private static void newSlotJustFits() {
        due.about("if it has no free slot, in a new one, if version and slot fit: just");
        VersionDesk x = Rows.deskOfTexts();
        Rows.ofSize(x, 272);
        put(x, 0, 0);
        Rows.ofSize(x, 196);
        put(x, 1, 1);
        due.is("20 bytes free", x.page(0, 3), 20);
        x.clear();
        put(x, 2, 2);
        Rows.isPage(due, x, 0, 0, 3, 3, 0, -1);
    }

    private static void newSlotOneByteShort() {
        due.about("if it has no free slot, in a new one, if version and slot fit: one byte too many");
        VersionDesk x = Rows.deskOfTexts();
        Rows.ofSize(x, 272);
        put(x, 0, 0);
        Rows.ofSize(x, 197);
        put(x, 1, 1);
        due.is("19 bytes free", x.page(0, 3), 19);
        x.clear();
        put(x, 2, 256);
        Rows.isPage(due, x, 0, 0, 2, 2, 19, 1);
    }

    private static void newSlotNeedsFourBytes() {
        due.about("version and slot fit: the version alone is not enough");
        VersionDesk x = Rows.deskOfSmall();
        for (int slot = 0; slot < 24; slot++) {
            put(x, slot, slot);
        }
        due.is("16 bytes free", x.page(0, 3), 16);
        put(x, 24, 256);
        Rows.isPage(due, x, 0, 0, 24, 24, 16, 1);
    }

    private static void lowestFreePageComesBehind() {
        due.about("If no page has room, the lowest free page comes behind the chain, and it is put there in slot 0");
        VersionDesk x = new VersionDesk();
        for (int t = 0; t < 4; t++) {
            x.create(t, 8, 22222222);
        }
        Rows.ofSize(x, 272);
        put(x, 0, 0);
        put(x, 1, 1024);
        due.yes("drop", x.drop(3));
        due.yes("drop", x.drop(1));
        put(x, 2, 256);
        put(x, 3, 768);
        put(x, 4, 1280);
        Rows.isPage(due, x, 0, 0, 1, 1, 220, 4);
        Rows.isPage(due, x, 4, 0, 1, 1, 220, 1);
        Rows.isPage(due, x, 1, 0, 1, 1, 220, 3);
        Rows.isPage(due, x, 3, 0, 1, 1, 220, 5);
        Rows.isPage(due, x, 5, 0, 1, 1, 220, -1);
        Rows.isPage(due, x, 2, 2, 0, 0, 496, -1);
    }

    private static void largestVersionFitsAnEmptyPage() {
        due.about("the largest version, 272, with its slot");
        VersionDesk x = Rows.deskOfTexts();
        Rows.ofSize(x, 272);
        put(x, 0, 0);
        due.is("size", x.look(0, 6), 272);
        Rows.isPage(due, x, 0, 0, 1, 1, 220, -1);
        x.clear();
        due.yes("get", x.get(0));
        for (int c = 0; c < 8; c++) {
            due.is("bytes", x.value(c), 31);
            due.is("first letter", x.letter(c, 0), 0x61);
            due.is("last letter", x.letter(c, 30), 0x68);
        }
    }

    private static void emptiedFirstPageHasRoomForTheLargest() {
        due.about("room is used again: 24 free slots and the largest version");
        VersionDesk x = Rows.deskOfTexts();
        fillWithSmallest(x);
        for (int slot = 0; slot < 24; slot++) {
            due.yes("take", x.take(slot));
        }
        Rows.isPage(due, x, 0, 0, 24, 0, 400, -1);
        Rows.ofSize(x, 272);
        put(x, 30, 0);
        Rows.isPage(due, x, 0, 0, 24, 1, 128, -1);
        Rows.ofSize(x, 128);
        put(x, 31, 1);
        Rows.isPage(due, x, 0, 0, 24, 2, 0, -1);
    }

    private static void lastPageOfTheLongestChain() {
        due.about("the first page of the chain that has room, the last of 60");
        VersionDesk x = Rows.deskWithoutFreePage();
        Rows.ofSize(x, 216);
        for (int p = 0; p < 60; p++) {
            put(x, p, 256 * p + 1);
        }
        due.is("no room", x.put(0, 60, 0, 0), -1);
        due.yes("take", x.take(256 * 59));
        put(x, 60, 256 * 59);
        due.is("free there", x.page(59, 3), 56);
        due.is("no room", x.put(0, 61, 0, 0), -1);
    }

    private static void noPageLeft() {
        due.about("-1 if no page has room");
        VersionDesk x = Rows.deskWithoutFreePage();
        due.is("put", x.put(0, 60, 0, 0), -1);
        Rows.ofSize(x, 217);
        due.is("one byte too many for each page", x.put(0, 60, 0, 0), -1);
        Rows.ofSize(x, 216);
        put(x, 60, 1);
        due.yes("take", x.take(256 * 30));
        Rows.ofSize(x, 272);
        put(x, 61, 256 * 30);
        due.is("no room again", x.put(0, 62, 0, 0), -1);
    }

    private static void takenSlotIsFree() {
        due.about("To TAKE one out: its slot is free");
        VersionDesk x = Rows.deskOfSmall();
        for (int slot = 0; slot < 3; slot++) {
            put(x, slot, slot);
        }
        due.yes("take", x.take(1));
        due.is("slots stay", x.page(0, 1), 3);
        due.is("versions", x.page(0, 2), 2);
        due.is("none there", x.look(1, 0), -1);
        due.no("none there", x.take(1));
        due.yes("take the highest", x.take(2));
        due.is("slots stay", x.page(0, 1), 3);
        put(x, 8, 1);
        put(x, 9, 2);
    }

    private static void takenRoomIsFree() {
        due.about("room is used again");
        VersionDesk x = Rows.deskOfTexts();
        Rows.ofSize(x, 100);
        for (int slot = 0; slot < 4; slot++) {
            put(x, slot, slot);
        }
        due.is("free", x.page(0, 3), 80);
        due.yes("take", x.take(0));
        due.yes("take", x.take(2));
        due.is("free", x.page(0, 3), 280);
        Rows.ofSize(x, 272);
        put(x, 4, 0);
        due.is("from both gaps", x.page(0, 3), 8);
        due.is("neighbour", x.look(1, 0), 1);
        due.is("neighbour", x.look(3, 0), 3);
    }

    private static void lastVersionOfALaterPage() {
        due.about("If the page has no version any more, and is not the first of its chain, it is free and goes out");
        VersionDesk x = Rows.deskOfTexts();
        Rows.ofSize(x, 272);
        put(x, 0, 0);
        put(x, 1, 256);
        x.clear();
        put(x, 2, 1);
        Rows.ofSize(x, 216);
        put(x, 3, 257);
        due.yes("take", x.take(256));
        Rows.isPage(due, x, 1, 0, 2, 1, 272, -1);
        due.is("still in the chain", x.page(0, 4), 1);
        due.yes("take its last", x.take(257));
        Rows.isFreePage(due, x, 1);
        due.is("out of the chain", x.page(0, 4), -1);
        due.is("next", x.next(0, 1), -1);
        due.is("no page of it", x.next(0, 256), -1);
        due.yes("free for another table", x.create(1, 1, 1));
        due.is("page 1", x.page(1, 0), 1);
    }

    private static void lastVersionOfTheMiddlePage() {
        due.about("it is free and goes out of the chain: from the middle");
        VersionDesk x = Rows.deskOfTexts();
        Rows.ofSize(x, 272);
        for (int p = 0; p < 5; p++) {
            put(x, p, 256 * p);
        }
        due.yes("take", x.take(512));
        due.is("chain", x.page(1, 4), 3);
        due.yes("take", x.take(256));
        due.is("chain", x.page(0, 4), 3);
        due.is("chain", x.page(3, 4), 4);
        due.is("next", x.next(0, 0), 768);
        put(x, 9, 256);
        due.is("behind the chain", x.page(4, 4), 1);
        due.is("end of the chain", x.page(1, 4), -1);
    }

    private static void lastVersionOfTheFirstPage() {
        due.about("and is not the first of its chain");
        VersionDesk x = Rows.deskOfTexts();
        x.clear();
        put(x, 0, 0);
        due.yes("take", x.take(0));
        Rows.isPage(due, x, 0, 0, 1, 0, 492, -1);
        due.no("the table is there", x.create(0, 1, 1));
        put(x, 1, 0);
        Rows.ofSize(x, 272);
        put(x, 2, 1);
        put(x, 3, 256);
        due.yes("take", x.take(0));
        due.yes("take", x.take(1));
        Rows.isPage(due, x, 0, 0, 2, 0, 488, 1);
        due.is("next", x.next(0, -1), 256);
        due.is("next", x.next(0, 0), 256);
    }

    private static void firstOfItsChainIsNotPage0() {
        due.about("the first of its chain, whatever its page");
        VersionDesk x = new VersionDesk();
        x.create(1, 1, 1);
        x.create(0, 8, 22222222);
        Rows.ofSize(x, 272);
        put(x, 0, 256);
        due.yes("drop", x.drop(1));
        put(x, 1, 0);
        due.yes("take", x.take(256));
        Rows.isPage(due, x, 1, 0, 1, 0, 492, 0);
        due.yes("take", x.take(0));
        Rows.isFreePage(due, x, 0);
        Rows.isPage(due, x, 1, 0, 1, 0, 492, -1);
    }

    private static void slotsOfAFreedPageAreGone() {
        due.about("(its slots are gone)");
        VersionDesk x = Rows.deskOfTexts();
        fillWithSmallest(x);
        put(x, 24, 256);
        put(x, 25, 257);
        put(x, 26, 258);
        for (int slot = 0; slot < 3; slot++) {
            due.yes("take", x.take(256 + slot));
        }
        Rows.isFreePage(due, x, 1);
        put(x, 27, 256);
        Rows.isPage(due, x, 1, 0, 1, 1, 476, -1);
        due.is("none in slot 1", x.look(257, 0), -1);
        due.is("none in slot 2", x.look(258, 0), -1);
        put(x, 28, 257);
    }

    private static void placesStay() {
        due.about("found by its place for as long as it is there");
        VersionDesk x = Rows.deskOfTexts();
        int[] sizes = {40, 16, 90, 17, 60, 48, 100};
        for (int slot = 0; slot < sizes.length; slot++) {
            putMarked(x, slot, sizes[slot]);
        }
        int[] taken = {2, 0, 5};
        for (int slot : taken) {
            due.yes("take", x.take(slot));
        }
        putMarked(x, 0, 150);
        putMarked(x, 2, 20);
        int[] left = {0, 1, 2, 3, 4, 6};
        for (int slot : left) {
            isMarked(x, slot, slot == 0 ? 150 : slot == 2 ? 20 : sizes[slot]);
        }
        int[] takenThen = {1, 6, 3};
        for (int slot : takenThen) {
            due.yes("take", x.take(slot));
        }
        isMarked(x, 0, 150);
        isMarked(x, 2, 20);
        isMarked(x, 4, 60);
    }

    private static void putMarked(VersionDesk x, int slot, int size) {
        Rows.ofSize(x, size);
        put(x, 100 + slot, slot);
        due.yes("end", x.end(slot, 200 + slot, 300 + slot));
        due.yes("behind", x.behind(slot, 400 + slot));
    }

    private static void isMarked(VersionDesk x, int slot, int size) {
        due.is("number", x.look(slot, 0), 100 + slot);
        due.is("end", x.look(slot, 3), 200 + slot);
        due.is("end command", x.look(slot, 4), 300 + slot);
        due.is("behind", x.look(slot, 5), 400 + slot);
        due.is("size", x.look(slot, 6), size);
        due.yes("get", x.get(slot));
        int bytes = 16;
        for (int c = 0; c < 8; c++) {
            bytes += x.kind(c) == 2 ? 1 + (int) x.value(c) : 0;
        }
        due.is("bytes of its row", bytes, size);
    }
}
