import java.util.ArrayList;
import java.util.List;
import java.util.function.Consumer;
import java.util.function.Supplier;
import java.util.function.ToLongFunction;

/**
 * "A call that is refused changes nothing.": what a desk tells of its hand, its pages and many of its places, and
 * where the next versions come, is asked with and without the refused call.
 * An object is good for 512 calls, so the questions are spread over many desks that were made in the same way.
 */
public final class RefusedTest {
    private static final Due due = new Due("RefusedTest");
    private static final int QUESTIONS_OF_A_DESK = 280;
    private static final int[] WRONG_PLACES = {
        1, 4, 255, 512, 767, 1280, 15104, 15359, 15360, 65536, -1, -2, -256, Integer.MIN_VALUE, Integer.MAX_VALUE};
    private static final int[] WRONG_SHORTS = {-1, 65536, Integer.MIN_VALUE, Integer.MAX_VALUE};

    private final Supplier<VersionDesk> made;
    private final List<Long> before;

    private RefusedTest(Supplier<VersionDesk> made) {
        this.made = made;
        before = told(x -> { });
    }

    public static void main(String[] args) {
        inUse();
        full();
        due.close();
    }

    /**
     * Table 0 (INT, TEXT, BOOL, INT) in page 0, with a free slot 1; table 3 of TEXTs in pages 1 and 3, and page 2,
     * that it had, is free; table 7 in page 4, empty. In hand: a number, a TEXT of 31, a TEXT, an empty TEXT, NULLs.
     */
    private static VersionDesk deskInUse() {
        VersionDesk x = new VersionDesk();
        x.create(0, 4, 1321);
        x.create(3, 8, 22222222);
        x.cell(0, -5);
        x.text(1, 0x4142, 2);
        x.cell(2, 9);
        for (int i = 0; i < 3; i++) {
            x.put(0, 10 + i, 20 + i, 30 + i);
        }
        x.end(2, 40, 50);
        x.behind(2, 0);
        x.take(1);
        Rows.ofSize(x, Rows.LARGEST);
        for (int i = 0; i < 3; i++) {
            x.put(3, 60 + i, 70 + i, 80 + i);
        }
        x.behind(256, 768);
        x.take(512);
        x.create(6, 1, 1);
        x.create(7, 2, 11);
        x.drop(6);
        x.clear();
        x.cell(0, 123456789012L);
        Rows.longText(x, 1, 31);
        x.text(2, 0x7A, 1);
        x.text(3, 0, 0);
        return x;
    }

    private static void inUse() {
        due.about("A call that is refused changes nothing: create");
        RefusedTest desk = new RefusedTest(RefusedTest::deskInUse);
        desk.creates();
        due.about("A call that is refused changes nothing: drop");
        for (int table : new int[] {-1, 1, 2, 6, 8, Integer.MIN_VALUE, Integer.MAX_VALUE}) {
            desk.refuses("drop(" + table + ")", x -> bit(x.drop(table)), 0);
        }
        due.about("A call that is refused changes nothing: cell, text");
        desk.hands();
        due.about("A call that is refused changes nothing: put");
        desk.puts();
        due.about("A call that is refused changes nothing: get, end, behind, take");
        desk.versions();
        due.about("A question changes nothing");
        desk.questions();
    }

    private void creates() {
        for (int table : new int[] {-1, 8, 0, 3, 7, Integer.MIN_VALUE, Integer.MAX_VALUE}) {
            refuses("create(" + table + ", 1, 1)", x -> bit(x.create(table, 1, 1)), 0);
        }
        for (int many : new int[] {0, -1, 9, Integer.MIN_VALUE, Integer.MAX_VALUE}) {
            refuses("create(1, " + many + ", 11111111)", x -> bit(x.create(1, many, 11111111)), 0);
        }
        for (int types : new int[] {0, 4, 14, 41, 1, -11, Integer.MIN_VALUE}) {
            refuses("create(1, 2, " + types + ")", x -> bit(x.create(1, 2, types)), 0);
        }
    }

    private void hands() {
        for (int column : new int[] {-1, 8, Integer.MIN_VALUE, Integer.MAX_VALUE}) {
            refuses("cell(" + column + ", 7)", x -> bit(x.cell(column, 7)), 0);
            refuses("text(" + column + ", 7, 1)", x -> bit(x.text(column, 7, 1)), 0);
        }
        for (int c = 0; c < 8; c++) {
            int column = c;
            for (int n : new int[] {-1, 9, Integer.MIN_VALUE, Integer.MAX_VALUE}) {
                refuses("text(" + column + ", 7, " + n + ")", x -> bit(x.text(column, 7, n)), 0);
            }
        }
        for (int n = 1; n <= 8; n++) {
            int more = n;
            refuses("text(1, 7, " + more + ")", x -> bit(x.text(1, 7, more)), 0);
        }
    }

    private void puts() {
        for (int table : new int[] {-1, 1, 6, 8, Integer.MIN_VALUE, Integer.MAX_VALUE}) {
            refuses("put(" + table + ", 1, 1, 1)", x -> x.put(table, 1, 1, 1), -2);
        }
        refuses("put of a TEXT in a BOOL", x -> x.put(0, 1, 1, 1), -2);
        refuses("put of a number in a TEXT", x -> x.put(3, 1, 1, 1), -2);
        refuses("put of a TEXT in an INT", x -> x.put(7, 1, 1, 1), -2);
        RefusedTest cleared = new RefusedTest(() -> {
            VersionDesk x = deskInUse();
            x.clear();
            return x;
        });
        for (int table : new int[] {0, 3, 7}) {
            cleared.refuses("put of number -1", x -> x.put(table, -1, 1, 1), -2);
            cleared.refuses("put of the lowest number", x -> x.put(table, Integer.MIN_VALUE, 1, 1), -2);
            for (int wrong : WRONG_SHORTS) {
                cleared.refuses("put of maker " + wrong, x -> x.put(table, 1, wrong, 1), -2);
                cleared.refuses("put of command " + wrong, x -> x.put(table, 1, 1, wrong), -2);
            }
        }
    }

    private void versions() {
        for (int place : WRONG_PLACES) {
            refuses("get(" + place + ")", x -> bit(x.get(place)), 0);
            refuses("end(" + place + ", 1, 1)", x -> bit(x.end(place, 1, 1)), 0);
            refuses("behind(" + place + ", 1)", x -> bit(x.behind(place, 1)), 0);
            refuses("take(" + place + ")", x -> bit(x.take(place)), 0);
        }
        for (int place : new int[] {0, 2, 256, 768}) {
            for (int wrong : WRONG_SHORTS) {
                refuses("end(" + place + ", " + wrong + ", 1)", x -> bit(x.end(place, wrong, 1)), 0);
                refuses("end(" + place + ", 1, " + wrong + ")", x -> bit(x.end(place, 1, wrong)), 0);
            }
            for (int other : new int[] {-2, 15360, 65535, Integer.MIN_VALUE, Integer.MAX_VALUE}) {
                refuses("behind(" + place + ", " + other + ")", x -> bit(x.behind(place, other)), 0);
            }
        }
    }

    private void questions() {
        refuses("look(2, 3)", x -> x.look(2, 3), 40);
        refuses("look(2, 8)", x -> x.look(2, 8), -1);
        refuses("look(1, 0)", x -> x.look(1, 0), -1);
        refuses("next(3, 256)", x -> x.next(3, 256), 768);
        refuses("next(3, 768)", x -> x.next(3, 768), -1);
        refuses("next(1, -1)", x -> x.next(1, -1), -1);
        refuses("value(0)", x -> x.value(0), 123456789012L);
        refuses("value(8)", x -> x.value(8), 0);
        refuses("letter(1, 30)", x -> x.letter(1, 30), 0x68);
        refuses("letter(1, 31)", x -> x.letter(1, 31), -1);
        refuses("kind(3)", x -> x.kind(3), 2);
        refuses("kind(8)", x -> x.kind(8), -1);
        refuses("page(1, 4)", x -> x.page(1, 4), 3);
        refuses("page(60, 4)", x -> x.page(60, 4), -1);
        refuses("page(5, 3)", x -> x.page(5, 3), 496);
    }

    private static void full() {
        due.about("A call that is refused changes nothing: no page is free");
        RefusedTest desk = new RefusedTest(Rows::deskWithoutFreePage);
        desk.refuses("put without room", x -> x.put(0, 1, 1, 1), -1);
        desk.refuses("create without a page", x -> bit(x.create(1, 1, 1)), 0);
        desk.refuses("put in no table", x -> x.put(1, 1, 1, 1), -2);
        desk.refuses("put of number -1", x -> x.put(0, -1, 1, 1), -2);
    }

    private static long bit(boolean answer) {
        return answer ? 1 : 0;
    }

    private void refuses(String call, ToLongFunction<VersionDesk> asked, long want) {
        due.is(call, asked.applyAsLong(made.get()), want);
        List<Long> after = told(asked::applyAsLong);
        int changed = 0;
        for (int i = 0; i < before.size(); i++) {
            changed += before.get(i).equals(after.get(i)) ? 0 : 1;
        }
        due.is("answers changed by " + call, changed, 0);
    }

    private List<Long> told(Consumer<VersionDesk> call) {
        List<Long> answers = new ArrayList<>();
        List<ToLongFunction<VersionDesk>> all = askable();
        for (int from = 0; from < all.size(); from += QUESTIONS_OF_A_DESK) {
            VersionDesk x = made.get();
            call.accept(x);
            for (int i = from; i < Math.min(all.size(), from + QUESTIONS_OF_A_DESK); i++) {
                answers.add(all.get(i).applyAsLong(x));
            }
        }
        for (int place : new int[] {0, 1, 2, 256, 512, 768, 15104}) {
            VersionDesk x = made.get();
            call.accept(x);
            answers.add(bit(x.get(place)));
            answers.add(handOf(x));
        }
        answers.addAll(putsAfter(call));
        return answers;
    }

    private static List<ToLongFunction<VersionDesk>> askable() {
        List<ToLongFunction<VersionDesk>> all = new ArrayList<>();
        for (int c = 0; c < 8; c++) {
            int column = c;
            all.add(x -> x.kind(column));
            all.add(x -> x.value(column));
            for (int i = 0; i < 31; i++) {
                int letter = i;
                all.add(x -> x.letter(column, letter));
            }
        }
        for (int p = 0; p < 60; p++) {
            int page = p;
            for (int w = 0; w < 8; w++) {
                int what = w;
                all.add(x -> x.page(page, what));
                all.add(x -> x.look(256 * page, what));
            }
        }
        for (int t = 0; t < 8; t++) {
            int table = t;
            for (int s = 0; s < 4; s++) {
                int slot = s;
                all.add(x -> x.next(table, 256 * table + slot - 1));
                all.add(x -> x.look(slot, table));
                all.add(x -> x.look(256 + slot, table));
            }
        }
        return all;
    }

    /** Kinds, values and some letters of the row in hand as one number. */
    private static long handOf(VersionDesk x) {
        long sum = 0;
        for (int c = 0; c < 8; c++) {
            sum = 31 * sum + x.kind(c);
            sum = 31 * sum + x.value(c);
            for (int i = 0; i < 32; i += 3) {
                sum = 31 * sum + x.letter(c, i);
            }
        }
        return sum;
    }

    /** Where the next versions come tells the room and the tables that can't be asked for. */
    private List<Long> putsAfter(Consumer<VersionDesk> call) {
        List<Long> answers = new ArrayList<>();
        VersionDesk x = made.get();
        call.accept(x);
        answers.add((long) x.put(3, 1, 1, 1));
        x.clear();
        for (int table = 0; table < 8; table++) {
            for (int i = 0; i < 3; i++) {
                answers.add((long) x.put(table, 1, 1, 1));
            }
        }
        for (int table = 0; table < 8; table++) {
            answers.add(bit(x.create(table, 2, 13)));
        }
        for (int table = 0; table < 8; table++) {
            answers.add(bit(x.drop(table)));
        }
        return answers;
    }
}
