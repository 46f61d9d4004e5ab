import java.util.Random;

/** Long runs of calls, the same each time, on VersionDesk and on PlainDesk beside it. */
public final class ModelTest {
    private static final Due due = new Due("ModelTest");
    private static final int RUNS = 4000;
    private static final int CALLS = 512;
    private static final int LONGEST_COMPARISON = 49;
    private static final int ALL_TEXTS = 22222222;
    private static final int[] WILD = {
        -1, -2, 0, 8, 9, 31, 60, 255, 256, 15359, 15360, 65535, 65536, Integer.MIN_VALUE, Integer.MAX_VALUE};

    /** CROWDED: the run begins with the largest rows, so that no page is left soon; the others don't get there. */
    private enum Run { SMALL, LARGE, CROWDED }

    private static int withoutRoom = 0;

    private final Random random;
    private final VersionDesk x = new VersionDesk();
    private final PlainDesk y = new PlainDesk();
    private final int[] places = new int[CALLS];
    private final int taking;
    private final int dropping;
    private final Run kind;
    private int known = 0;

    private ModelTest(long seed) {
        random = new Random(seed);
        taking = random.nextInt(40);
        dropping = random.nextInt(3);
        kind = Run.values()[random.nextInt(3)];
    }

    public static void main(String[] args) {
        for (int run = 0; run < RUNS; run++) {
            ModelTest test = new ModelTest(run);
            int steps = CALLS * (1 + run % 5) / 5;
            for (int call = test.begin(); call < steps; call++) {
                test.step();
            }
            test.compare(CALLS - steps);
        }
        due.yes("some puts found no room", withoutRoom > 0);
        due.close();
    }

    /** Begins a CROWDED run; answers how many calls it made. */
    private int begin() {
        if (kind != Run.CROWDED) {
            return 0;
        }
        for (int table = 0; table < 2; table++) {
            due.is("create", bit(x.create(table, 8, ALL_TEXTS)), bit(y.create(table, 8, ALL_TEXTS)));
        }
        for (int i = 0; i < 32; i++) {
            long bytes = random.nextLong();
            int n = i < 24 ? 8 : 7;
            due.is("text", bit(x.text(i % 8, bytes, n)), bit(y.text(i % 8, bytes, n)));
        }
        for (int i = 0; i < 61; i++) {
            stepPut();
        }
        return 2 + 32 + 61;
    }

    private int wild(int usual) {
        return random.nextInt(20) == 0 ? WILD[random.nextInt(WILD.length)] : usual;
    }

    private int table() {
        return wild(random.nextInt(kind == Run.SMALL ? 8 : kind == Run.LARGE ? 2 : 3));
    }

    private int place() {
        if (known > 0 && random.nextInt(8) != 0) {
            return wild(places[random.nextInt(known)]);
        }
        return wild(256 * random.nextInt(60) + random.nextInt(26));
    }

    private static long bit(boolean answer) {
        return answer ? 1 : 0;
    }

    private void step() {
        int dice = random.nextInt(160);
        if (dice < taking) {
            int place = place();
            due.is("take", bit(x.take(place)), bit(y.take(place)));
        } else if (dice < taking + dropping) {
            int table = table();
            due.is("drop", bit(x.drop(table)), bit(y.drop(table)));
        } else if (dice < 90) {
            stepPut();
        } else if (dice < 110) {
            stepHand();
        } else if (dice < 120) {
            stepCreate();
        } else if (dice < 145) {
            stepVersion();
        } else {
            stepAsk();
        }
    }

    private void stepPut() {
        int table = table();
        int number = wild(random.nextInt() >>> 1);
        int maker = wild(random.nextInt(65536));
        int command = wild(random.nextInt(65536));
        int place = x.put(table, number, maker, command);
        due.is("put", place, y.put(table, number, maker, command));
        withoutRoom += place == -1 ? 1 : 0;
        if (place >= 0) {
            places[known++] = place;
        }
    }

    private void stepHand() {
        int column = wild(random.nextInt(8));
        long number = random.nextInt(4) == 0 ? 0 : random.nextLong();
        int dice = random.nextInt(12);
        if (dice == 0) {
            x.clear();
            y.clear();
        } else if (becomesText(column)) {
            int n = wild(kind == Run.LARGE ? 8 : random.nextInt(9));
            due.is("text", bit(x.text(column, number, n)), bit(y.text(column, number, n)));
        } else {
            due.is("cell", bit(x.cell(column, number)), bit(y.cell(column, number)));
        }
    }

    private boolean becomesText(int column) {
        switch (kind) {
            case SMALL: return column % 3 == 1;
            case LARGE: return column % 4 != 0;
            default: return true;
        }
    }

    /** The TEXT columns are those of which stepHand makes TEXTs, or nearly every put would be refused. */
    private int usualTypes() {
        switch (kind) {
            case SMALL: return 21321321;
            case LARGE: return 22212223;
            default: return ALL_TEXTS;
        }
    }

    private void stepCreate() {
        int table = table();
        int many = wild(1 + random.nextInt(8));
        int types = random.nextInt(10) == 0 ? random.nextInt() : wild(usualTypes());
        due.is("create", bit(x.create(table, many, types)), bit(y.create(table, many, types)));
    }

    private void stepVersion() {
        int place = place();
        int dice = random.nextInt(3);
        if (dice == 0) {
            int by = wild(random.nextInt(65536));
            int command = wild(random.nextInt(65536));
            due.is("end", bit(x.end(place, by, command)), bit(y.end(place, by, command)));
        } else if (dice == 1) {
            int other = wild(random.nextInt(15360));
            due.is("behind", bit(x.behind(place, other)), bit(y.behind(place, other)));
        } else {
            due.is("get", bit(x.get(place)), bit(y.get(place)));
        }
    }

    private void stepAsk() {
        int place = place();
        int table = table();
        int column = wild(random.nextInt(8));
        int small = wild(random.nextInt(9));
        switch (random.nextInt(6)) {
            case 0: due.is("look", x.look(place, small), y.look(place, small)); break;
            case 1: due.is("next", x.next(table, place), y.next(table, place)); break;
            case 2: due.is("value", x.value(column), y.value(column)); break;
            case 3: due.is("letter", x.letter(column, small), y.letter(column, small)); break;
            case 4: due.is("kind", x.kind(column), y.kind(column)); break;
            default:
                int page = wild(random.nextInt(60));
                due.is("page", x.page(page, small), y.page(page, small));
        }
    }

    /** An object is good for 512 calls, so the two are compared at some points alone, by what is left of the calls. */
    private void compare(int calls) {
        int left = calls;
        while (left > 0) {
            if (left > LONGEST_COMPARISON && known > 0 && random.nextInt(30) == 0) {
                compareRow(places[random.nextInt(known)]);
                left -= LONGEST_COMPARISON;
            } else {
                compareFact();
                left--;
            }
        }
    }

    private void compareFact() {
        int place = place();
        if (random.nextInt(3) == 0) {
            int p = random.nextInt(8) == 0 ? random.nextInt(60) : place >> 8;
            int what = random.nextInt(5);
            due.is("page(" + p + ", " + what + ")", x.page(p, what), y.page(p, what));
        } else if (random.nextInt(3) == 0) {
            int table = Math.max(y.look(place, 7), 0);
            due.is("next(" + table + ", " + place + ")", x.next(table, place), y.next(table, place));
        } else {
            int what = random.nextInt(8);
            due.is("look(" + place + ", " + what + ")", x.look(place, what), y.look(place, what));
        }
    }

    private void compareRow(int place) {
        due.is("get(" + place + ")", bit(x.get(place)), bit(y.get(place)));
        for (int c = 0; c < 8; c++) {
            due.is("kind(" + c + ")", x.kind(c), y.kind(c));
            due.is("value(" + c + ")", x.value(c), y.value(c));
        }
        int c = random.nextInt(8);
        for (int i = 0; i < 32; i++) {
            due.is("letter(" + c + ", " + i + ")", x.letter(c, i), y.letter(c, i));
        }
    }
}
