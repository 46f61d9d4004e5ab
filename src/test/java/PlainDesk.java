import java.util.ArrayList;
import java.util.Arrays;
import java.util.List;
import java.util.TreeMap;

/**
 * The document once more with lists, maps and boxed cells instead of bytes, so that an error in the
 * packing of VersionDesk is not made here too. A cell is null, a Long or a byte[].
 */
final class PlainDesk {
    private static final class Version {
        final int[] facts = new int[8];
        Object[] row;
    }

    private static final class Leaf {
        int table = -1;
        List<Version> slots = new ArrayList<>();
    }

    private final TreeMap<Integer, int[]> types = new TreeMap<>();
    private final TreeMap<Integer, List<Integer>> chains = new TreeMap<>();
    private final Leaf[] leaves = new Leaf[60];
    private Object[] hand = new Object[8];

    PlainDesk() {
        for (int p = 0; p < 60; p++) {
            leaves[p] = new Leaf();
        }
    }

    boolean create(int table, int many, int number) {
        if (table < 0 || table > 7 || types.containsKey(table) || many < 1 || many > 8) {
            return false;
        }
        String digits = new StringBuilder(Integer.toString(number)).reverse().toString();
        if (number < 0 || digits.length() < many || !digits.substring(0, many).matches("[123]+")) {
            return false;
        }
        int page = lowestFree();
        if (page < 0) {
            return false;
        }
        int[] own = new int[many];
        for (int c = 0; c < many; c++) {
            own[c] = digits.charAt(c) - '0';
        }
        types.put(table, own);
        leaves[page].table = table;
        chains.put(table, new ArrayList<>(List.of(page)));
        return true;
    }

    private int lowestFree() {
        for (int p = 0; p < 60; p++) {
            if (leaves[p].table == -1) {
                return p;
            }
        }
        return -1;
    }

    boolean drop(int table) {
        if (types.remove(table) == null) {
            return false;
        }
        for (int p : chains.remove(table)) {
            leaves[p] = new Leaf();
        }
        return true;
    }

    void clear() {
        hand = new Object[8];
    }

    boolean cell(int column, long value) {
        if (column < 0 || column > 7) {
            return false;
        }
        hand[column] = value;
        return true;
    }

    boolean text(int column, long bytes, int n) {
        if (column < 0 || column > 7 || n < 0 || n > 8) {
            return false;
        }
        byte[] old = hand[column] instanceof byte[] b ? b : new byte[0];
        if (old.length + n > 31) {
            return false;
        }
        byte[] grown = Arrays.copyOf(old, old.length + n);
        for (int i = 0; i < n; i++) {
            grown[grown.length - 1 - i] = (byte) (bytes >> (8 * i));
        }
        hand[column] = grown;
        return true;
    }

    int put(int table, int number, int maker, int command) {
        int[] own = types.get(table);
        if (own == null || number < 0 || !isShort(maker) || !isShort(command)) {
            return -2;
        }
        Version made = new Version();
        made.row = new Object[8];
        int size = 16;
        for (int c = 0; c < own.length; c++) {
            Object it = hand[c];
            if (it == null) {
                continue;
            }
            if (it instanceof byte[] != (own[c] == 2)) {
                return -2;
            }
            size += own[c] == 1 ? 8 : own[c] == 3 ? 1 : 1 + ((byte[]) it).length;
            made.row[c] = own[c] == 3 ? (Object) ((Long) it == 0 ? 0L : 1L) : it;
        }
        int[] facts = {number, maker, command, 0, 0, -1, size, table};
        System.arraycopy(facts, 0, made.facts, 0, 8);
        return settle(table, made, size);
    }

    private int settle(int table, Version made, int size) {
        for (int p : chains.get(table)) {
            List<Version> slots = leaves[p].slots;
            int free = slots.indexOf(null);
            if (free >= 0 && size <= freeBytes(p)) {
                slots.set(free, made);
                return 256 * p + free;
            }
            if (free < 0 && slots.size() < 120 && size + 4 <= freeBytes(p)) {
                slots.add(made);
                return 256 * p + slots.size() - 1;
            }
        }
        int page = lowestFree();
        if (page < 0) {
            return -1;
        }
        leaves[page].table = table;
        leaves[page].slots.add(made);
        chains.get(table).add(page);
        return 256 * page;
    }

    private static boolean isShort(int number) {
        return number >= 0 && number < 65536;
    }

    private int freeBytes(int p) {
        int free = 496;
        for (Version version : leaves[p].slots) {
            free -= 4 + (version == null ? 0 : version.facts[6]);
        }
        return free;
    }

    private Version at(int place) {
        if (place < 0 || place >= 15360) {
            return null;
        }
        List<Version> slots = leaves[place >> 8].slots;
        return (place & 255) < slots.size() ? slots.get(place & 255) : null;
    }

    boolean get(int place) {
        if (at(place) == null) {
            return false;
        }
        hand = at(place).row.clone();
        return true;
    }

    boolean end(int place, int by, int command) {
        if (at(place) == null || !isShort(by) || !isShort(command)) {
            return false;
        }
        at(place).facts[3] = by;
        at(place).facts[4] = command;
        return true;
    }

    boolean behind(int place, int other) {
        if (at(place) == null || other < -1 || other >= 15360) {
            return false;
        }
        at(place).facts[5] = other;
        return true;
    }

    boolean take(int place) {
        if (at(place) == null) {
            return false;
        }
        int p = place >> 8;
        Leaf leaf = leaves[p];
        leaf.slots.set(place & 255, null);
        List<Integer> chain = chains.get(leaf.table);
        if (versions(leaf) == 0 && chain.get(0) != p) {
            chain.remove((Integer) p);
            leaves[p] = new Leaf();
        }
        return true;
    }

    private static int versions(Leaf leaf) {
        int count = 0;
        for (Version version : leaf.slots) {
            count += version == null ? 0 : 1;
        }
        return count;
    }

    int look(int place, int what) {
        return at(place) == null || what < 0 || what > 7 ? -1 : at(place).facts[what];
    }

    int next(int table, int place) {
        List<Integer> chain = chains.get(table);
        if (chain == null || place < -1 || place >= 15360) {
            return -1;
        }
        if (place >= 0 && !chain.contains(place >> 8)) {
            return -1;
        }
        boolean passed = place == -1;
        for (int p : chain) {
            for (int slot = 0; slot < 256; slot++) {
                int here = 256 * p + slot;
                if (passed && at(here) != null) {
                    return here;
                }
                passed = passed || here == place;
            }
        }
        return -1;
    }

    long value(int column) {
        Object it = column < 0 || column > 7 ? null : hand[column];
        return it == null ? 0 : it instanceof byte[] b ? b.length : (Long) it;
    }

    int letter(int column, int i) {
        Object it = column < 0 || column > 7 ? null : hand[column];
        return it instanceof byte[] b && i >= 0 && i < b.length ? b[i] & 255 : -1;
    }

    int kind(int column) {
        if (column < 0 || column > 7) {
            return -1;
        }
        return hand[column] == null ? 0 : hand[column] instanceof byte[] ? 2 : 1;
    }

    int page(int p, int what) {
        if (p < 0 || p > 59) {
            return -1;
        }
        List<Integer> chain = chains.get(leaves[p].table);
        int after = chain == null ? -1 : chain.indexOf(p) + 1;
        switch (what) {
            case 0: return leaves[p].table;
            case 1: return leaves[p].slots.size();
            case 2: return versions(leaves[p]);
            case 3: return freeBytes(p);
            case 4: return chain == null || after == chain.size() ? -1 : chain.get(after);
            default: return -1;
        }
    }
}
