/** Promises 30 to 36: recalls, crates and tests. */
public final class FindingsTest {
    private static final int[] NO_RAWS = {-1, 6, 32, Integer.MAX_VALUE, Integer.MIN_VALUE};

    private final Check check = new Check();

    public static void main(String[] args) {
        FindingsTest test = new FindingsTest();
        test.promise30And31Affected();
        test.promise32And33Crates();
        test.promise32And33Refusals();
        test.promise34And35Tests();
        test.promise36IsTested();
        test.check.finish();
    }

    private void affected(JarCannery x, int raw, int want) {
        check.due("30 affectedLots " + raw, want, () -> x.affectedLots(raw));
        check.due("31 affectedBySets " + raw, want, () -> x.affectedBySets(raw));
    }

    private void promise30And31Affected() {
        JarCannery x = Build.batches(3, 20, 6, 20, 8, 20);
        x.fill(0, 1, 0, 9);
        x.fill(0, 0, 0, 9);
        x.fill(1, 2, 0, 9);
        affected(x, 0, 2);
        affected(x, 1, 3);
        affected(x, 2, 2);
        affected(x, 3, 1);
        affected(x, 5, 0);
        x.ship(1);
        affected(x, 0, 1);
        affected(x, 1, 2);
        x.recall(0);
        affected(x, 0, 0);
        affected(x, 1, 1);
        for (int raw : NO_RAWS) {
            check.refused("30 raw lot " + raw, IndexOutOfBoundsException.class, () -> x.affectedLots(raw));
            check.refused("31 raw lot " + raw, IndexOutOfBoundsException.class, () -> x.affectedBySets(raw));
        }
    }

    private void crates(int capacity, int want, int... jars) {
        JarCannery x = Build.lots(jars);
        String what = capacity + " for " + java.util.Arrays.toString(jars);
        check.due("32 leastCrates " + what, want, () -> x.leastCrates(capacity));
        check.due("33 leastCratesByTrial " + what, want, () -> x.leastCratesByTrial(capacity));
    }

    private void promise32And33Crates() {
        crates(9, 0);
        crates(40, 0);
        crates(9, 1, 9);
        crates(9, 8, 9, 9, 9, 9, 9, 9, 9, 9);
        crates(9, 8, 5, 5, 5, 5, 5, 5, 5, 5);
        crates(9, 4, 4, 4, 4, 4, 4, 4, 4, 4);
        crates(9, 1, 1, 1, 1, 1, 1, 1, 1, 1);
        crates(9, 3, 3, 3, 3, 3, 3, 3, 3, 3);
        crates(40, 2, 9, 9, 9, 9, 9, 9, 9, 9);
        crates(40, 2, 9, 9, 9, 9, 9);
        crates(40, 1, 9, 9, 9, 9, 4);
        crates(10, 3, 3, 3, 4, 4, 3, 3, 5, 5);
        crates(12, 3, 6, 3, 3, 4, 4, 4, 5, 7);
        crates(10, 2, 2, 6, 5, 5, 2);
        crates(14, 3, 2, 3, 7, 7, 5, 5, 6, 4);
        crates(10, 4, 6, 6, 6, 4, 4, 4, 5, 5);
        crates(16, 3, 8, 4, 7, 8, 6, 9, 4);
        crates(16, 2, 6, 3, 8, 8, 1, 4, 1);
        crates(20, 2, 9, 9, 4, 8, 7, 2);
    }

    private void promise32And33Refusals() {
        JarCannery x = Build.lots(9, 9);
        for (int capacity : new int[] {8, 41, 0, -9, Integer.MAX_VALUE, Integer.MIN_VALUE}) {
            check.refused("32 capacity " + capacity, IllegalArgumentException.class, () -> x.leastCrates(capacity));
            check.refused("33 capacity " + capacity, IllegalArgumentException.class,
                    () -> x.leastCratesByTrial(capacity));
        }
        check.due("32 capacity 9", 2, () -> x.leastCrates(9));
        check.due("33 capacity 9", 2, () -> x.leastCratesByTrial(9));
        check.due("32 capacity 40", 1, () -> x.leastCrates(40));
        check.due("33 capacity 40", 1, () -> x.leastCratesByTrial(40));
        check.due("32 capacity 9 again", 2, () -> x.leastCrates(9));
    }

    /** A lot of each set, and the best test set as the sum that the document tells. */
    private void tests(int best, int... sets) {
        int[] batches = new int[sets.length * 2];
        for (int index = 0; index < sets.length; index++) {
            batches[index * 2] = sets[index];
            batches[index * 2 + 1] = 20;
        }
        JarCannery x = Build.batches(batches);
        for (int batch = 0; batch < sets.length; batch++) {
            x.fill(batch, batch, 0, 1);
        }
        String what = java.util.Arrays.toString(sets);
        check.due("34 fewestTests " + what, Integer.bitCount(best), x::fewestTests);
        check.due("35 fewestTestsByBranching " + what, Integer.bitCount(best), x::fewestTestsByBranching);
        for (int raw = 0; raw < 6; raw++) {
            int asked = raw;
            check.due("36 isTested " + raw + " of " + what, (best >> raw & 1) == 1, () -> x.isTested(asked));
        }
    }

    private void promise34And35Tests() {
        tests(0);
        tests(1, 1);
        tests(1, 3);
        tests(32, 32);
        tests(2, 3, 6);
        tests(63, 1, 2, 4, 8, 16, 32);
        tests(9, 9 | 2, 1 | 4, 8 | 16, 8 | 32);
        tests(3, 1, 3, 6);
        tests(5, 12, 20, 36, 3);
        tests(3, 1 | 4, 2 | 8, 1 | 8, 2 | 4);
        tests(9, 8 | 4, 8 | 2, 4 | 2 | 1, 8 | 1);
    }

    private void promise36IsTested() {
        JarCannery x = Build.batches(6, 20, 1, 20);
        check.due("36 no lot stored", false, () -> x.isTested(0));
        x.fill(0, 1, 0, 1);
        check.due("36 the lowest of the two batches", true, () -> x.isTested(0));
        x.recall(0);
        check.due("36 after the recall", false, () -> x.isTested(0));
        x.fill(0, 0, 0, 1);
        check.due("36 the smallest sum", true, () -> x.isTested(1));
        check.due("36 not the other", false, () -> x.isTested(2));
        check.due("34 one", 1, x::fewestTests);
        for (int raw : NO_RAWS) {
            check.refused("36 raw lot " + raw, IndexOutOfBoundsException.class, () -> x.isTested(raw));
        }
    }
}
