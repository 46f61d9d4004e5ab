import java.util.Arrays;

/** Versions of rows, packed in pages of bytes; tables are chains of such pages. */
public final class VersionDesk {
    private static final int NONE = -1;
    private static final int REFUSED = -2;

    private static final int TABLES = 8;
    private static final int COLUMNS = 8;
    private static final int PAGES = 60;
    private static final int PLACES_OF_PAGE = 256;
    private static final int PLACES = PAGES * PLACES_OF_PAGE;
    private static final int HIGHEST_SHORT = 65535;

    private static final int TYPE_INT = 1;
    private static final int TYPE_TEXT = 2;
    private static final int TYPE_BOOL = 3;

    private static final int KIND_NULL = 0;
    private static final int KIND_NUMBER = 1;
    private static final int KIND_TEXT = 2;

    private static final int PAGE_BYTES = 496;
    private static final int MOST_SLOTS = 120;
    private static final int SLOT_BYTES = 4;
    private static final int INT_BYTES = 8;
    private static final int MOST_LETTERS = 31;
    private static final int MOST_LETTERS_AT_ONCE = 8;

    // Where the parts of a version's head stand, counted from its first byte; byte 15 is spare.
    private static final int AT_NUMBER = 0;
    private static final int AT_MAKER = 4;
    private static final int AT_COMMAND = 6;
    private static final int AT_END = 8;
    private static final int AT_END_COMMAND = 10;
    private static final int AT_BEHIND = 12;
    private static final int AT_FILLED = 14;
    private static final int HEAD_BYTES = 16;

    private final Row hand;
    private final Table[] tables;
    private final Page[] pages;

    public VersionDesk() {
        hand = new Row();
        tables = new Table[TABLES];
        pages = new Page[PAGES];
    }

    public boolean create(int table, int many, int types) {
        if (table < 0 || table >= TABLES || tables[table] != null || !areTypes(many, types)) {
            return false;
        }
        int first = openLowestFreePage(table);
        if (first == NONE) {
            return false;
        }
        tables[table] = new Table(first, many, types);
        return true;
    }

    public boolean drop(int table) {
        if (tableAt(table) == null) {
            return false;
        }
        for (int p = 0; p < PAGES; p++) {
            Page page = usedPage(p);
            if (page != null && page.table == table) {
                page.reset(NONE);
            }
        }
        tables[table] = null;
        return true;
    }

    public void clear() {
        hand.makeAllNull();
    }

    public boolean cell(int column, long value) {
        if (!isColumn(column)) {
            return false;
        }
        hand.setNumber(column, value);
        return true;
    }

    public boolean text(int column, long bytes, int n) {
        if (!isColumn(column) || n < 0 || n > MOST_LETTERS_AT_ONCE
                || hand.lengthAt(column) + n > MOST_LETTERS) {
            return false;
        }
        hand.makeText(column);
        for (int i = n - 1; i >= 0; i--) {
            hand.addLetter(column, (int) (bytes >>> (8 * i)));
        }
        return true;
    }

    public int put(int table, int number, int maker, int command) {
        Table owner = tableAt(table);
        if (owner == null || number < 0 || !isShort(maker) || !isShort(command) || !handSuits(owner)) {
            return REFUSED;
        }
        int place = makeRoom(table, owner, sizeOfHand(owner));
        Page page = pageWithVersion(place);
        if (page == null) {
            return NONE;
        }
        int at = page.startOf(slotOf(place));
        page.write(at + AT_NUMBER, 4, number);
        page.write(at + AT_MAKER, 2, maker);
        page.write(at + AT_COMMAND, 2, command);
        page.write(at + AT_END, 2, 0);
        page.write(at + AT_END_COMMAND, 2, 0);
        writeBehind(page, at, NONE);
        packHand(owner, page, at);
        return place;
    }

    public boolean get(int place) {
        Page page = pageWithVersion(place);
        if (page == null) {
            return false;
        }
        Table owner = tableAt(page.table);
        if (owner == null) {
            return false;
        }
        hand.makeAllNull();
        unpackToHand(owner, page, page.startOf(slotOf(place)));
        return true;
    }

    public boolean end(int place, int by, int command) {
        Page page = pageWithVersion(place);
        if (page == null || !isShort(by) || !isShort(command)) {
            return false;
        }
        int at = page.startOf(slotOf(place));
        page.write(at + AT_END, 2, by);
        page.write(at + AT_END_COMMAND, 2, command);
        return true;
    }

    public boolean behind(int place, int other) {
        Page page = pageWithVersion(place);
        if (page == null || (other != NONE && !isPlace(other))) {
            return false;
        }
        writeBehind(page, page.startOf(slotOf(place)), other);
        return true;
    }

    public boolean take(int place) {
        Page page = pageWithVersion(place);
        if (page == null) {
            return false;
        }
        page.remove(slotOf(place));
        if (page.versions == 0) {
            leaveChain(pageOf(place), page);
        }
        return true;
    }

    public int look(int place, int what) {
        Page page = pageWithVersion(place);
        if (page == null) {
            return NONE;
        }
        int slot = slotOf(place);
        int at = page.startOf(slot);
        switch (what) {
            case 0: return (int) page.read(at + AT_NUMBER, 4);
            case 1: return (int) page.read(at + AT_MAKER, 2);
            case 2: return (int) page.read(at + AT_COMMAND, 2);
            case 3: return (int) page.read(at + AT_END, 2);
            case 4: return (int) page.read(at + AT_END_COMMAND, 2);
            case 5: return readBehind(page, at);
            case 6: return page.sizeOf(slot);
            case 7: return page.table;
            default: return NONE;
        }
    }

    public int next(int table, int place) {
        Table owner = tableAt(table);
        if (owner == null) {
            return NONE;
        }
        if (place == NONE) {
            return firstVersionFrom(owner.first, 0);
        }
        if (!isPlace(place)) {
            return NONE;
        }
        Page page = usedPage(pageOf(place));
        if (page == null || page.table != table) {
            return NONE;
        }
        return firstVersionFrom(pageOf(place), slotOf(place) + 1);
    }

    public long value(int column) {
        switch (hand.kindAt(column)) {
            case KIND_NUMBER: return hand.numberAt(column);
            case KIND_TEXT: return hand.lengthAt(column);
            default: return 0;
        }
    }

    public int letter(int column, int i) {
        return hand.letterAt(column, i);
    }

    public int kind(int column) {
        return hand.kindAt(column);
    }

    public int page(int p, int what) {
        if (p < 0 || p >= PAGES) {
            return NONE;
        }
        Page page = usedPage(p);
        return page == null ? factOfFreePage(what) : factOfPage(page, what);
    }

    private static int factOfPage(Page page, int what) {
        switch (what) {
            case 0: return page.table;
            case 1: return page.slots;
            case 2: return page.versions;
            case 3: return page.freeBytes();
            case 4: return page.following;
            default: return NONE;
        }
    }

    private static int factOfFreePage(int what) {
        switch (what) {
            case 1: return 0;
            case 2: return 0;
            case 3: return PAGE_BYTES;
            default: return NONE;
        }
    }

    private static boolean isColumn(int column) {
        return column >= 0 && column < COLUMNS;
    }

    private static boolean isShort(int number) {
        return number >= 0 && number <= HIGHEST_SHORT;
    }

    private static boolean isPlace(int place) {
        return place >= 0 && place < PLACES;
    }

    private static int pageOf(int place) {
        return place / PLACES_OF_PAGE;
    }

    private static int slotOf(int place) {
        return place % PLACES_OF_PAGE;
    }

    private static int digit(int number, int index) {
        int rest = number;
        for (int i = 0; i < index; i++) {
            rest /= 10;
        }
        return rest % 10;
    }

    private static boolean areTypes(int many, int types) {
        if (many < 1 || many > COLUMNS) {
            return false;
        }
        for (int c = 0; c < many; c++) {
            int type = digit(types, c);
            if (type != TYPE_INT && type != TYPE_TEXT && type != TYPE_BOOL) {
                return false;
            }
        }
        return true;
    }

    private Table tableAt(int table) {
        return table >= 0 && table < TABLES ? tables[table] : null;
    }

    private Page usedPage(int p) {
        if (p < 0 || p >= PAGES) {
            return null;
        }
        Page page = pages[p];
        return page != null && page.table != NONE ? page : null;
    }

    private Page pageWithVersion(int place) {
        if (!isPlace(place)) {
            return null;
        }
        Page page = usedPage(pageOf(place));
        return page != null && page.holds(slotOf(place)) ? page : null;
    }

    // A page's bytes are made when it is first opened and kept for good, so a desk with few rows stays small.
    private int openLowestFreePage(int table) {
        for (int p = 0; p < PAGES; p++) {
            Page page = pages[p];
            if (page == null) {
                page = new Page();
                pages[p] = page;
            }
            if (page.table == NONE) {
                page.reset(table);
                return p;
            }
        }
        return NONE;
    }

    private int makeRoom(int table, Table owner, int size) {
        int p = owner.first;
        for (int steps = 0; steps < PAGES; steps++) {
            Page page = usedPage(p);
            if (page == null) {
                return NONE;
            }
            int slot = page.slotFor(size);
            if (slot != NONE) {
                return addAt(p, slot, size);
            }
            if (page.following == NONE) {
                page.following = openLowestFreePage(table);
                return addAt(page.following, 0, size);
            }
            p = page.following;
        }
        return NONE;
    }

    private int addAt(int p, int slot, int size) {
        Page page = usedPage(p);
        if (page == null) {
            return NONE;
        }
        page.add(slot, size);
        return PLACES_OF_PAGE * p + slot;
    }

    private void leaveChain(int p, Page page) {
        Table owner = tableAt(page.table);
        if (owner == null) {
            return;
        }
        int at = owner.first;
        // The first page is behind no page of the chain, so it is never found here and stays.
        for (int steps = 0; steps < PAGES; steps++) {
            Page before = usedPage(at);
            if (before == null) {
                return;
            }
            if (before.following == p) {
                before.following = page.following;
                page.reset(NONE);
                return;
            }
            at = before.following;
        }
    }

    private int firstVersionFrom(int p, int slot) {
        int at = p;
        int from = slot;
        for (int steps = 0; steps < PAGES; steps++) {
            Page page = usedPage(at);
            if (page == null) {
                return NONE;
            }
            int found = page.firstHeldFrom(from);
            if (found != NONE) {
                return PLACES_OF_PAGE * at + found;
            }
            at = page.following;
            from = 0;
        }
        return NONE;
    }

    // One more than the place is kept, so that none fits two bytes too.
    private static void writeBehind(Page page, int at, int other) {
        page.write(at + AT_BEHIND, 2, other + 1);
    }

    private static int readBehind(Page page, int at) {
        return (int) page.read(at + AT_BEHIND, 2) - 1;
    }

    private boolean handSuits(Table owner) {
        for (int c = 0; c < owner.columns; c++) {
            int kind = hand.kindAt(c);
            boolean needsText = owner.typeAt(c) == TYPE_TEXT;
            if (kind != KIND_NULL && (kind == KIND_TEXT) != needsText) {
                return false;
            }
        }
        return true;
    }

    private int sizeOfHand(Table owner) {
        int size = HEAD_BYTES;
        for (int c = 0; c < owner.columns; c++) {
            if (hand.kindAt(c) != KIND_NULL) {
                size += cellBytes(owner.typeAt(c), c);
            }
        }
        return size;
    }

    private int cellBytes(int type, int column) {
        switch (type) {
            case TYPE_INT: return INT_BYTES;
            case TYPE_TEXT: return 1 + hand.lengthAt(column);
            default: return 1;
        }
    }

    private void packHand(Table owner, Page page, int start) {
        int at = start + HEAD_BYTES;
        int filled = 0;
        for (int c = 0; c < owner.columns; c++) {
            if (hand.kindAt(c) != KIND_NULL) {
                filled |= 1 << c;
                at = packCell(owner.typeAt(c), c, page, at);
            }
        }
        page.write(start + AT_FILLED, 1, filled);
    }

    private int packCell(int type, int column, Page page, int at) {
        switch (type) {
            case TYPE_INT:
                page.write(at, INT_BYTES, hand.numberAt(column));
                return at + INT_BYTES;
            case TYPE_TEXT:
                return packText(column, page, at);
            default:
                page.write(at, 1, hand.numberAt(column) == 0 ? 0 : 1);
                return at + 1;
        }
    }

    private int packText(int column, Page page, int at) {
        int length = hand.lengthAt(column);
        page.write(at, 1, length);
        for (int i = 0; i < length; i++) {
            page.write(at + 1 + i, 1, hand.letterAt(column, i));
        }
        return at + 1 + length;
    }

    private void unpackToHand(Table owner, Page page, int start) {
        int at = start + HEAD_BYTES;
        int filled = (int) page.read(start + AT_FILLED, 1);
        for (int c = 0; c < owner.columns; c++) {
            if ((filled >> c & 1) == 1) {
                at = unpackCell(owner.typeAt(c), c, page, at);
            }
        }
    }

    private int unpackCell(int type, int column, Page page, int at) {
        switch (type) {
            case TYPE_INT:
                hand.setNumber(column, page.read(at, INT_BYTES));
                return at + INT_BYTES;
            case TYPE_TEXT:
                return unpackText(column, page, at);
            default:
                hand.setNumber(column, page.read(at, 1));
                return at + 1;
        }
    }

    private int unpackText(int column, Page page, int at) {
        int length = (int) page.read(at, 1);
        hand.makeText(column);
        for (int i = 0; i < length; i++) {
            hand.addLetter(column, (int) page.read(at + 1 + i, 1));
        }
        return at + 1 + length;
    }

    /** What a table is, but for its versions; its chain begins at its first page. */
    private static final class Table {
        final int first;
        final int columns;
        private final int types;

        Table(int first, int columns, int types) {
            this.first = first;
            this.columns = columns;
            this.types = types;
        }

        int typeAt(int column) {
            return digit(types, column);
        }
    }

    /** Eight cells, each NULL, a number or a TEXT. */
    private static final class Row {
        private final int[] kinds = new int[COLUMNS];
        private final long[] numbers = new long[COLUMNS];
        private final int[] lengths = new int[COLUMNS];
        private final byte[] letters = new byte[COLUMNS * MOST_LETTERS];

        void makeAllNull() {
            Arrays.fill(kinds, KIND_NULL);
        }

        int kindAt(int column) {
            return isColumn(column) ? kinds[column] : NONE;
        }

        long numberAt(int column) {
            return kindAt(column) == KIND_NUMBER ? numbers[column] : 0;
        }

        int lengthAt(int column) {
            return kindAt(column) == KIND_TEXT ? lengths[column] : 0;
        }

        int letterAt(int column, int i) {
            if (kindAt(column) != KIND_TEXT || i < 0 || i >= lengths[column]) {
                return NONE;
            }
            return letters[column * MOST_LETTERS + i] & 255;
        }

        void setNumber(int column, long number) {
            if (isColumn(column)) {
                kinds[column] = KIND_NUMBER;
                numbers[column] = number;
            }
        }

        void makeText(int column) {
            if (isColumn(column) && kinds[column] != KIND_TEXT) {
                kinds[column] = KIND_TEXT;
                lengths[column] = 0;
            }
        }

        void addLetter(int column, int letter) {
            if (kindAt(column) == KIND_TEXT && lengths[column] < MOST_LETTERS) {
                letters[column * MOST_LETTERS + lengths[column]] = (byte) letter;
                lengths[column]++;
            }
        }
    }

    /**
     * Slots grow from the front of the bytes, versions are packed against their end. A slot has two bytes for
     * where its version starts and two for its size; the size of a free slot is 0.
     */
    private static final class Page {
        int table = NONE;
        int following = NONE;
        int slots = 0;
        int versions = 0;
        private int packedFrom = PAGE_BYTES;
        private final byte[] bytes = new byte[PAGE_BYTES];

        void reset(int owner) {
            table = owner;
            following = NONE;
            slots = 0;
            versions = 0;
            packedFrom = PAGE_BYTES;
        }

        int freeBytes() {
            return packedFrom - SLOT_BYTES * slots;
        }

        boolean holds(int slot) {
            return slot >= 0 && slot < slots && sizeOf(slot) > 0;
        }

        int startOf(int slot) {
            return (int) read(SLOT_BYTES * slot, 2);
        }

        int sizeOf(int slot) {
            return (int) read(SLOT_BYTES * slot + 2, 2);
        }

        int firstHeldFrom(int from) {
            for (int slot = from; slot < slots; slot++) {
                if (holds(slot)) {
                    return slot;
                }
            }
            return NONE;
        }

        int slotFor(int size) {
            for (int slot = 0; slot < slots; slot++) {
                if (!holds(slot)) {
                    return size <= freeBytes() ? slot : NONE;
                }
            }
            return slots < MOST_SLOTS && size + SLOT_BYTES <= freeBytes() ? slots : NONE;
        }

        void add(int slot, int size) {
            if (slot == slots) {
                slots++;
            }
            packedFrom -= size;
            setSlot(slot, packedFrom, size);
            versions++;
        }

        void remove(int slot) {
            int start = startOf(slot);
            int size = sizeOf(slot);
            closeGap(start, size);
            setSlot(slot, 0, 0);
            versions--;
        }

        // The versions in front of the gap move up at once, so the free bytes always lie together.
        private void closeGap(int start, int size) {
            if (packedFrom < 0 || start < packedFrom || size < 0 || start + size > PAGE_BYTES) {
                return;
            }
            System.arraycopy(bytes, packedFrom, bytes, packedFrom + size, start - packedFrom);
            packedFrom += size;
            for (int slot = 0; slot < slots; slot++) {
                if (holds(slot) && startOf(slot) < start) {
                    setSlot(slot, startOf(slot) + size, sizeOf(slot));
                }
            }
        }

        private void setSlot(int slot, int start, int size) {
            write(SLOT_BYTES * slot, 2, start);
            write(SLOT_BYTES * slot + 2, 2, size);
        }

        long read(int at, int n) {
            long number = 0;
            for (int i = at; i < at + n; i++) {
                int low = i >= 0 && i < PAGE_BYTES ? bytes[i] & 255 : 0;
                number = number << 8 | low;
            }
            return number;
        }

        void write(int at, int n, long number) {
            for (int i = 0; i < n; i++) {
                int to = at + n - 1 - i;
                if (to >= 0 && to < PAGE_BYTES) {
                    bytes[to] = (byte) (number >>> (8 * i));
                }
            }
        }
    }
}
