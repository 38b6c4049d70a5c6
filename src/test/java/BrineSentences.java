/** The sentences of promises 1 to 8. */
final class BrineSentences {
    private static final int LOW = Integer.MIN_VALUE;
    private static final int HIGH = Integer.MAX_VALUE;

    private BrineSentences() {
    }

    static void tell(Sentences s) {
        newObject(s);
        addRaw(s);
        mixArguments(s);
        mixStates(s);
        looks(s);
    }

    private static void newObject(Sentences s) {
        s.promise(1, "Creates a cannery without raw lots, batches, labels and jar lots, at day 0.")
            .answers(0, "rawCount", JarCannery::rawCount)
            .answers(0, "batchCount", JarCannery::batchCount)
            .answers(0, "labelCount", JarCannery::labelCount)
            .answers(0, "lotCount", JarCannery::lotCount)
            .answers(0, "stored", JarCannery::stored)
            .answers(0, "dayCount", JarCannery::dayCount)
            .answers("throws IndexOutOfBoundsException", "isFaulty(0)", x -> x.isFaulty(0))
            .answers("throws IndexOutOfBoundsException", "strengthOf(0)", x -> x.strengthOf(0))
            .answers("throws IndexOutOfBoundsException", "labelLength(0)", x -> x.labelLength(0))
            .answers("throws NoSuchElementException", "jarsOf(0)", x -> x.jarsOf(0));
    }

    private static void addRaw(Sentences s) {
        s.promise(2, "Throws `IllegalStateException` if there are 6 raw lots")
            .on(() -> Build.raws(6)).refuses("addRaw", JarCannery::addRaw)
            .on(() -> Build.changed(Build.raws(6), x -> x.recall(0))).refuses("addRaw, one is faulty", JarCannery::addRaw)
            .on(() -> Build.raws(5)).answers(5, "addRaw", JarCannery::addRaw)
            .on(() -> Build.changed(Build.raws(6), JarCannery::undo)).answers(5, "addRaw, one is undone", JarCannery::addRaw);
    }

    private static void mixArguments(Sentences s) {
        s.promise(3, "`strength`: its strength, 1 to 20")
            .on(() -> Build.batches(1, 1, 1, 20))
            .answers(1, "strengthOf", x -> x.strengthOf(0))
            .answers(20, "strengthOf", x -> x.strengthOf(1));
        s.promise(3, "Throws `IllegalArgumentException` if the set is empty or contains a raw lot that there is not,"
                + " or the strength is out of range")
            .refuses("mix of a raw lot where there is none", x -> x.mix(1, 1))
            .on(() -> Build.raws(3))
            .refusesEach(new int[] {0, 8, 9, 15, 64, 1 << 30, -1, -8, LOW, LOW + 1, HIGH}, "mix", (x, set) -> x.mix(set, 1))
            .refusesEach(new int[] {0, 21, -1, LOW, HIGH}, "mix with the strength", (x, strength) -> x.mix(7, strength))
            .answers(0, "mix of all three, strength 1", x -> x.mix(7, 1))
            .answers(0, "mix of the last, strength 20", x -> x.mix(4, 20))
            .on(() -> Build.raws(6))
            .refusesEach(new int[] {0, 64, 65, 127, LOW}, "mix", (x, set) -> x.mix(set, 1))
            .answers(0, "mix of all six", x -> x.mix(63, 1));
    }

    private static void mixStates(Sentences s) {
        s.promise(3, "Throws `IllegalStateException` if there are 6 batches")
            .on(() -> Build.batches(1, 5, 1, 5, 1, 5, 1, 5, 1, 5, 1, 5))
            .refuses("mix", x -> x.mix(1, 5))
            .refuses("mix of another set", x -> x.mix(32, 20))
            .on(() -> Build.batches(1, 5, 1, 5, 1, 5, 1, 5, 1, 5))
            .answers(5, "mix of the sixth", x -> x.mix(1, 5))
            .on(() -> Build.changed(Build.batches(1, 5, 1, 5, 1, 5, 1, 5, 1, 5, 1, 5), JarCannery::undo))
            .answers(5, "mix, one is undone", x -> x.mix(1, 5));
        s.promise(3, "Throws `UnsupportedOperationException` if a raw lot of the set is faulty")
            .on(() -> Build.changed(Build.raws(3), x -> x.recall(1)))
            .refuses("mix of it alone", x -> x.mix(2, 1))
            .refuses("mix with the first", x -> x.mix(3, 1))
            .refuses("mix with the last", x -> x.mix(6, 1))
            .refuses("mix of all", x -> x.mix(7, 20))
            .answers(0, "mix without it", x -> x.mix(5, 1))
            .on(() -> Build.changed(Build.raws(3), x -> {
                x.recall(1);
                x.undo();
            }))
            .answers(0, "mix, the recall is undone", x -> x.mix(2, 1));
    }

    private static void looks(Sentences s) {
        s.promise(6, "Throws `IndexOutOfBoundsException` if there is no such raw lot")
            .refusesEach(new int[] {0, -1}, "isFaulty without any", JarCannery::isFaulty)
            .on(() -> Build.changed(Build.raws(3), x -> x.recall(0)))
            .refusesEach(new int[] {-1, 3, 5, 6, 32, 34, LOW, HIGH}, "isFaulty", JarCannery::isFaulty)
            .answers(true, "isFaulty of the first", x -> x.isFaulty(0))
            .answers(false, "isFaulty of the last", x -> x.isFaulty(2));
        s.promise(7, "Throws `IndexOutOfBoundsException` if there is no such batch")
            .refusesEach(new int[] {0, -1}, "strengthOf without any", JarCannery::strengthOf)
            .on(() -> Build.batches(1, 7, 2, 9))
            .refusesEach(new int[] {-1, 2, 5, 6, LOW, HIGH}, "strengthOf", JarCannery::strengthOf)
            .answers(7, "strengthOf of the first", x -> x.strengthOf(0))
            .answers(9, "strengthOf of the last", x -> x.strengthOf(1));
        s.promise(8, "Throws `IndexOutOfBoundsException` if there is no such batch or raw lot")
            .refuses("batchContains without any", x -> x.batchContains(0, 0))
            .on(() -> Build.raws(1)).refuses("batchContains without batches", x -> x.batchContains(0, 0))
            .on(() -> Build.changed(Build.raws(3), x -> {
                x.mix(5, 9);
                x.mix(2, 9);
            }))
            .refusesEach(new int[] {-1, 2, 6, LOW, HIGH}, "batchContains", (x, batch) -> x.batchContains(batch, 0))
            .refusesEach(new int[] {-1, 3, 32, 34, LOW, HIGH}, "batchContains", (x, raw) -> x.batchContains(0, raw))
            .answers(true, "batchContains of the last raw lot", x -> x.batchContains(0, 2))
            .answers(true, "batchContains of the last batch", x -> x.batchContains(1, 1))
            .answers(false, "batchContains of the first ones", x -> x.batchContains(1, 0));
    }
}
