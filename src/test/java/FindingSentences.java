import java.util.Arrays;

/** The sentences of promises 30 to 36: recalls, crates and tests. */
final class FindingSentences {
    private static final int LOW = Integer.MIN_VALUE;
    private static final int HIGH = Integer.MAX_VALUE;
    private static final int[] NO_RAWS = {-1, 6, 7, 32, LOW, HIGH};

    private FindingSentences() {
    }

    static void tell(Sentences s) {
        affected(s);
        crates(s);
        capacities(s, 32, (x, capacity) -> x.leastCrates(capacity));
        capacities(s, 33, (x, capacity) -> x.leastCratesByTrial(capacity));
        tests(s);
    }

    /** Batches of raw lots 0 and 1, of 1 and 2, and of 5; a lot of the first two, one of the first, one of the last. */
    private static JarCannery threeLots() {
        JarCannery x = Build.batches(3, 20, 6, 20, 32, 20);
        x.fill(0, 1, 0, 9);
        x.fill(0, 0, 0, 9);
        x.fill(2, 2, 0, 9);
        return x;
    }

    /** Three batches with raw lot 0 and one without it, and lots of two batches each. */
    private static JarCannery crossedLots() {
        JarCannery x = Build.batches(1, 20, 3, 20, 5, 20, 2, 20);
        x.fill(0, 2, 0, 1);
        x.fill(2, 1, 0, 1);
        x.fill(1, 0, 0, 1);
        x.fill(3, 0, 0, 1);
        x.fill(3, 3, 0, 1);
        return x;
    }

    private static void affected(Sentences s) {
        String none = "Throws `IndexOutOfBoundsException` if there is no such raw lot";
        s.promise(30, none)
            .refusesEach(new int[] {0, -1}, "affectedLots without any", JarCannery::affectedLots)
            .on(FindingSentences::threeLots).refusesEach(NO_RAWS, "affectedLots", JarCannery::affectedLots)
            .answers(2, "affectedLots of the first", x -> x.affectedLots(0))
            .answers(1, "affectedLots of the last", x -> x.affectedLots(5));
        s.promise(31, none)
            .refusesEach(new int[] {0, -1}, "affectedBySets without any", JarCannery::affectedBySets)
            .on(FindingSentences::threeLots).refusesEach(NO_RAWS, "affectedBySets", JarCannery::affectedBySets)
            .answers(2, "affectedBySets of the first", x -> x.affectedBySets(0))
            .answers(1, "affectedBySets of the last", x -> x.affectedBySets(5));
        Sentence same = s.promise(31, "Returns the same as affectedLots, from the sets of raw lots of all jar lots.")
            .on(() -> Build.batches(1, 20)).answers(0, "affectedBySets without lots", x -> x.affectedBySets(0))
            .answers(0, "affectedLots without lots", x -> x.affectedLots(0))
            .on(() -> Build.lots(1, 1, 1, 1, 1, 1, 1, 1)).answers(8, "affectedBySets, all of them", x -> x.affectedBySets(0))
            .answers(8, "affectedLots, all of them", x -> x.affectedLots(0));
        same.on(FindingSentences::crossedLots)
            .answers(4, "affectedBySets of lots of several such batches", x -> x.affectedBySets(0))
            .answers(4, "affectedLots of lots of several such batches", x -> x.affectedLots(0))
            .answers(2, "affectedBySets of one batch", x -> x.affectedBySets(2))
            .answers(2, "affectedLots of one batch", x -> x.affectedLots(2));
        int[] wanted = {2, 2, 1, 0, 0, 1};
        for (int raw = 0; raw < wanted.length; raw++) {
            int chosen = raw;
            same.on(FindingSentences::threeLots)
                .answers(wanted[raw], "affectedBySets(" + raw + ")", x -> x.affectedBySets(chosen))
                .answers(wanted[raw], "affectedLots(" + raw + ")", x -> x.affectedLots(chosen));
        }
    }

    private static void crates(Sentences s) {
        Sentence least = s.promise(32, "Returns the least number of crates for all stored jar lots,"
                + " by finding how full the last crate is for all sets of lots.");
        Sentence byTrial = s.promise(33, "Returns the same as leastCrates,"
                + " by putting one lot after the other into each crate with room or into a new one.");
        // Each begins with the capacity and the crates that are due; the jars of the lots follow.
        int[][] cases = {{9, 0}, {40, 0}, {9, 1, 9}, {9, 1, 1}, {9, 1, 5, 4}, {9, 2, 5, 5}, {9, 8, 9, 9, 9, 9, 9, 9, 9, 9},
            {40, 2, 9, 9, 9, 9, 9, 9, 9, 9}, {40, 1, 5, 5, 5, 5, 5, 5, 5, 5}, {40, 2, 6, 5, 5, 5, 5, 5, 5, 5},
            {9, 1, 1, 1, 1, 1, 1, 1, 1, 1}, {9, 4, 4, 5, 4, 5, 4, 5, 4, 5}, {10, 2, 2, 6, 5, 5, 2},
            {12, 3, 6, 3, 3, 4, 4, 4, 5, 7}, {14, 3, 2, 3, 7, 7, 5, 5, 6, 4}, {20, 2, 9, 9, 4, 8, 7, 2},
            {16, 3, 8, 4, 7, 8, 6, 9, 4}, {16, 2, 6, 3, 8, 8, 1, 4, 1}, {10, 4, 6, 6, 6, 4, 4, 4, 5, 5},
            {16, 2, 5, 7, 5, 7, 6}, {11, 2, 3, 6, 4, 4, 4}, {18, 2, 6, 9, 6, 9, 6}};
        for (int[] one : cases) {
            int[] jars = Arrays.copyOfRange(one, 2, one.length);
            String told = " of " + Arrays.toString(jars) + ", capacity " + one[0];
            least.on(() -> Build.lots(jars)).answers(one[1], "leastCrates" + told, x -> x.leastCrates(one[0]));
            byTrial.on(() -> Build.lots(jars)).answers(one[1], "leastCratesByTrial" + told, x -> x.leastCratesByTrial(one[0]));
        }
    }

    private static void capacities(Sentences s, int promise, Sentence.NumberedCall call) {
        s.promise(promise, "`capacity`: the capacity of a crate, 9 to 40")
            .on(() -> Build.lots(9, 9, 9, 9, 4))
            .answers(5, "crates of 9", x -> call.on(x, 9))
            .answers(1, "crates of 40", x -> call.on(x, 40))
            .answers(2, "crates of 39", x -> call.on(x, 39))
            .steps((x, check) -> {
                for (int capacity : new int[] {40, 9, 20, 9}) {
                    check.due("crates of " + capacity + ", one after the other", capacity == 40 ? 1 : capacity == 9 ? 5 : 3,
                            () -> call.on(x, capacity));
                }
            });
        s.promise(promise, "Throws `IllegalArgumentException` if the capacity is out of range")
            .refusesEach(new int[] {8, 41}, "crates without lots", call)
            .on(() -> Build.lots(9, 1)).refusesEach(new int[] {8, 41, 0, -9, LOW, HIGH}, "crates", call)
            .answers(2, "crates of 9", x -> call.on(x, 9))
            .answers(1, "crates of 40", x -> call.on(x, 40));
    }

    private static void tests(Sentences s) {
        Sentence same = s.promise(35,
                "Returns the same as fewestTests, by testing in turn each raw lot of a jar lot that is not tested yet.");
        // Each begins with the tests that are due; the sets of the lots follow.
        int[][] cases = {{0}, {1, 1}, {1, 63}, {1, 3, 6}, {2, 1, 2}, {2, 3, 12, 5}, {6, 1, 2, 4, 8, 16, 32},
            {2, 11, 5, 24, 40}, {2, 12, 20, 36, 3}, {4, 3, 5, 6, 24, 40, 48}};
        for (int[] one : cases) {
            int[] batches = new int[2 * one.length - 2];
            for (int lot = 1; lot < one.length; lot++) {
                batches[2 * lot - 2] = one[lot];
                batches[2 * lot - 1] = 20;
            }
            String told = " of " + Arrays.toString(one);
            same.on(() -> Build.changed(Build.batches(batches), x -> {
                for (int lot = 1; lot < one.length; lot++) {
                    x.fill(lot - 1, lot - 1, 0, 1);
                }
            })).answers(one[0], "fewestTestsByBranching" + told, JarCannery::fewestTestsByBranching)
                .answers(one[0], "fewestTests" + told, JarCannery::fewestTests);
        }
        s.promise(36, "Throws `IndexOutOfBoundsException` if there is no such raw lot")
            .refusesEach(new int[] {0, -1}, "isTested without any", JarCannery::isTested)
            .on(FindingSentences::threeLots).refusesEach(NO_RAWS, "isTested", JarCannery::isTested)
            .answers(true, "isTested of the first", x -> x.isTested(0))
            .answers(true, "isTested of the last", x -> x.isTested(5))
            .answers(false, "isTested of another", x -> x.isTested(1));
    }
}
