import java.util.NoSuchElementException;

/** The sentences of promises 16 to 29. */
final class JarLotSentences {
    private static final int LOW = Integer.MIN_VALUE;
    private static final int HIGH = Integer.MAX_VALUE;

    private JarLotSentences() {
    }

    static void tell(Sentences s) {
        fillArguments(s);
        fillStates(s);
        ship(s);
        pass(s);
        recall(s);
        positions(s);
        lots(s);
        pops(s);
        ranks(s);
    }

    /** Lots 1, 3 and 5: lot 0 was shipped, lot 2 popped, lot 4 recalled; the fill of lot 6 was undone. */
    static JarCannery lotsWithGaps() {
        JarCannery x = Build.batches(1, 20, 2, 1, 4, 20);
        x.fill(0, 0, 0, 1);
        x.fill(0, 0, 0, 2);
        x.fill(1, 1, 0, 3);
        x.fill(0, 0, 0, 4);
        x.fill(2, 2, 0, 5);
        x.ship(0);
        x.recall(2);
        x.pass(3);
        x.fill(0, 0, 0, 6);
        x.fill(0, 0, 0, 7);
        x.undo();
        return x;
    }

    /** Three lots with nothing in common. */
    static JarCannery unlikeLots() {
        JarCannery x = Build.labels("a", "b", "c");
        for (int lot = 0; lot < 3; lot++) {
            x.addRaw();
        }
        x.mix(1, 20);
        x.mix(2, 10);
        x.mix(4, 1);
        for (int lot = 0; lot < 3; lot++) {
            x.fill(lot, lot, lot, lot + 1);
        }
        return x;
    }

    private static JarCannery eightLots() {
        return Build.lots(1, 2, 3, 4, 5, 6, 7, 8);
    }

    private static void fillArguments(Sentences s) {
        s.promise(16, "`second`: number of the other batch, or of the same one if the lot has only one")
            .on(() -> Build.batches(1, 20, 2, 10))
            .answers(10, "the strength of one batch", x -> x.strengthOfLot(x.fill(1, 1, 0, 1)))
            .answers(15, "the strength of two", x -> x.strengthOfLot(x.fill(1, 0, 0, 1)))
            .answers(false, "one batch, and not the other", x -> x.lotContains(x.fill(1, 1, 0, 1), 0))
            .answers(true, "one batch", x -> x.lotContains(x.fill(1, 1, 0, 1), 1))
            .steps((x, check) -> {
                x.fill(1, 1, 0, 1);
                check.due("a lot of one batch counts once", 1, () -> x.affectedLots(1));
            });
        s.promise(16, "`jars`: the number of jars, 1 to 9")
            .on(() -> Build.batches(1, 20))
            .answers(1, "one jar", x -> x.jarsOf(x.fill(0, 0, 0, 1)))
            .answers(9, "nine jars", x -> x.jarsOf(x.fill(0, 0, 0, 9)));
        s.promise(16, "Throws `IndexOutOfBoundsException` if there is no such batch, for either, or no such label")
            .refuses("fill without any", x -> x.fill(0, 0, 0, 1))
            .on(() -> Build.batches()).refuses("fill without batches", x -> x.fill(0, 0, 0, 1))
            .on(() -> Build.changed(Build.raws(1), x -> x.mix(1, 1)))
            .refuses("fill without labels", x -> x.fill(0, 0, 0, 1))
            .on(() -> Build.batches(1, 20, 2, 5))
            .refusesEach(new int[] {-1, 2, 6, LOW, HIGH}, "fill, first", (x, first) -> x.fill(first, 0, 0, 1))
            .refusesEach(new int[] {-1, 2, 6, LOW, HIGH}, "fill, second", (x, second) -> x.fill(0, second, 0, 1))
            .refusesEach(new int[] {-1, 1, 8, LOW, HIGH}, "fill, label", (x, label) -> x.fill(0, 0, label, 1))
            .answers(0, "fill of the first ones", x -> x.fill(0, 0, 0, 1))
            .answers(0, "fill of the last ones", x -> x.fill(1, 1, 0, 1))
            .on(() -> Build.changed(Build.batches(1, 20), x -> Build.label(x, "h")))
            .answers(0, "fill of the last label", x -> x.fill(0, 0, 1, 1));
        s.promise(16, "Throws `IllegalArgumentException` if the number of jars is out of range")
            .on(() -> Build.batches(1, 20))
            .refusesEach(new int[] {0, 10, -1, LOW, HIGH}, "fill of jars", (x, jars) -> x.fill(0, 0, 0, jars))
            .answers(0, "fill of one", x -> x.fill(0, 0, 0, 1))
            .answers(0, "fill of nine", x -> x.fill(0, 0, 0, 9));
    }

    private static void fillStates(Sentences s) {
        s.promise(16, "Throws `IllegalStateException` if 8 jar lots are stored")
            .on(JarLotSentences::eightLots).refuses("fill", x -> x.fill(0, 0, 0, 1))
            .on(() -> Build.lots(1, 2, 3, 4, 5, 6, 7)).answers(7, "fill of the eighth", x -> x.fill(0, 0, 0, 1))
            .on(() -> Build.changed(eightLots(), x -> x.ship(3))).answers(8, "fill after a ship", x -> x.fill(0, 0, 0, 1))
            .on(() -> Build.changed(eightLots(), x -> x.pass(30))).refuses("fill after 30 days", x -> x.fill(0, 0, 0, 1))
            .on(() -> Build.changed(eightLots(), x -> {
                x.pass(30);
                x.pass(30);
            })).answers(8, "fill after all popped", x -> x.fill(0, 0, 0, 1))
            .on(() -> Build.changed(eightLots(), JarCannery::undo)).answers(7, "fill, one is undone", x -> x.fill(0, 0, 0, 1))
            .on(() -> Build.changed(eightLots(), x -> {
                x.mix(2, 20);
                x.recall(0);
            })).answers(8, "fill after a recall", x -> x.fill(1, 1, 0, 1));
        s.promise(16, "Throws `UnsupportedOperationException` if one of the batches contains a faulty raw lot")
            .on(() -> Build.changed(Build.batches(1, 20, 7, 20, 8, 20, 2, 20), x -> x.recall(1)))
            .refuses("fill, the first", x -> x.fill(3, 0, 0, 1))
            .refuses("fill, the second", x -> x.fill(0, 3, 0, 1))
            .refuses("fill, both", x -> x.fill(3, 1, 0, 1))
            .refuses("fill, one of three raw lots", x -> x.fill(1, 1, 0, 1))
            .answers(0, "fill of the good ones", x -> x.fill(0, 2, 0, 1))
            .on(() -> Build.changed(Build.batches(2, 20), x -> {
                x.recall(1);
                x.undo();
            })).answers(0, "fill, the recall is undone", x -> x.fill(0, 0, 0, 1));
    }

    private static void ship(Sentences s) {
        s.promise(17, "Ships a jar lot, which is not stored any more.")
            .on(JarLotSentences::unlikeLots)
            .answers("3 3 3 0 6 0 0 0 . . . b20/100 b10/010 b1/001 la lb lc #0:1,0,20,0 #1:2,1,10,0 #2:3,2,1,0", "three lots",
                Build::sight)
            .on(() -> Build.changed(unlikeLots(), x -> x.ship(0)))
            .answers("3 3 3 0 6 1 0 0 . . . b20/100 b10/010 b1/001 la lb lc #1:2,1,10,0 #2:3,2,1,0", "the first is shipped",
                Build::sight)
            .on(() -> Build.changed(unlikeLots(), x -> x.ship(1)))
            .answers("3 3 3 0 6 2 0 0 . . . b20/100 b10/010 b1/001 la lb lc #0:1,0,20,0 #2:3,2,1,0", "the second is shipped",
                Build::sight)
            .answers(true, "what the third contains", x -> x.lotContains(2, 2))
            .on(() -> Build.changed(eightLots(), x -> x.ship(0)))
            .answers("6 1 1 0 36 1 0 0 . . . . . . b20/100000 labba #1:2,0,20,0 #2:3,0,20,0 #3:4,0,20,0 #4:5,0,20,0"
                + " #5:6,0,20,0 #6:7,0,20,0 #7:8,0,20,0", "the first of eight is shipped", Build::sight)
            .on(() -> Build.lots(3, 4, 5))
            .steps((x, check) -> {
                check.due("ship from the middle", 4, () -> x.ship(1));
                check.due("lotCount", 2, x::lotCount);
                check.due("stored", 8, x::stored);
                check.refused("it is gone", NoSuchElementException.class, () -> x.jarsOf(1));
                check.due("what stands in its place", 2, () -> x.lotAt(1));
                check.due("the one before it", 3, () -> x.ship(0));
                check.due("the one behind it", 5, () -> x.ship(2));
                check.due("none is left", 0, x::lotCount);
            });
        noSuchLot(s.promise(17, "Throws `NoSuchElementException` if there is no such jar lot"), "ship", JarCannery::ship)
            .answers(2, "ship of the first", x -> x.ship(1))
            .answers(6, "ship of the last", x -> x.ship(5));
    }

    /** A lot that never was, and those that are stored no more. */
    static Sentence noSuchLot(Sentence sentence, String told, Sentence.NumberedCall call) {
        return sentence.refusesEach(new int[] {0, -1}, told + " without any", call)
            .on(() -> Build.lots(1)).refusesEach(new int[] {1, -1}, told + " beside one", call)
            .on(JarLotSentences::lotsWithGaps)
            .refusesEach(new int[] {0, 2, 4, 6, 7, 8, 99, -1, LOW, HIGH}, told, call);
    }

    private static void pass(Sentences s) {
        s.promise(18, "`days`: the number of days, 1 to 30")
            .on(() -> Build.lots(1))
            .steps((x, check) -> {
                check.due("one day", 0, () -> x.pass(1));
                check.due("the pressure after one", 1, () -> x.pressureOf(0));
                check.due("thirty days", 0, () -> x.pass(30));
                check.due("the pressure after them", 31, () -> x.pressureOf(0));
                check.due("dayCount", 31, x::dayCount);
            });
        s.promise(18, "Throws `IllegalArgumentException` if the number of days is out of range")
            .refuses("pass of none, in a new object", x -> x.pass(0))
            .on(() -> Build.lots(1, 9))
            .refusesEach(new int[] {0, 31, -1, LOW, HIGH}, "pass", JarCannery::pass)
            .answers(0, "pass of one", x -> x.pass(1))
            .answers(0, "pass of thirty", x -> x.pass(30));
    }

    private static void recall(Sentences s) {
        s.promise(19, "Throws `IndexOutOfBoundsException` if there is no such raw lot")
            .refusesEach(new int[] {0, -1}, "recall without any", JarCannery::recall)
            .on(() -> Build.raws(3)).refusesEach(new int[] {-1, 3, 32, LOW, HIGH}, "recall", JarCannery::recall)
            .on(() -> Build.lots(4)).refusesEach(new int[] {-1, 6, 32, LOW, HIGH}, "recall", JarCannery::recall)
            .answers(1, "recall of the first", x -> x.recall(0))
            .answers(0, "recall of the last", x -> x.recall(5));
        s.promise(19, "Throws `IllegalStateException` if it is faulty")
            .on(() -> Build.changed(Build.lots(4), x -> x.recall(0))).refuses("recall again", x -> x.recall(0))
            .answers(0, "recall of another", x -> x.recall(1))
            .on(() -> Build.changed(Build.lots(4), x -> {
                x.recall(0);
                x.undo();
            })).answers(1, "recall, the first is undone", x -> x.recall(0));
    }

    private static void positions(Sentences s) {
        s.promise(21, "`position`: the position, from 0")
            .on(JarLotSentences::lotsWithGaps)
            .answers(1, "lotAt(0)", x -> x.lotAt(0))
            .answers(3, "lotAt(1)", x -> x.lotAt(1))
            .answers(5, "lotAt(2)", x -> x.lotAt(2));
        s.promise(21, "Throws `IndexOutOfBoundsException` if there is no such position")
            .refusesEach(new int[] {0, -1}, "lotAt without any", JarCannery::lotAt)
            .on(JarLotSentences::lotsWithGaps).refusesEach(new int[] {-1, 3, 5, 7, 8, LOW, HIGH}, "lotAt", JarCannery::lotAt)
            .on(JarLotSentences::eightLots).refusesEach(new int[] {-1, 8, 9}, "lotAt of eight", JarCannery::lotAt)
            .answers(7, "lotAt of the last", x -> x.lotAt(7));
    }

    private static void lots(Sentences s) {
        String none = "Throws `NoSuchElementException` if there is no such jar lot";
        noSuchLot(s.promise(22, none), "jarsOf", JarCannery::jarsOf)
            .answers(2, "jarsOf the first", x -> x.jarsOf(1)).answers(6, "jarsOf the last", x -> x.jarsOf(5));
        noSuchLot(s.promise(23, none), "labelOf", JarCannery::labelOf)
            .answers(0, "labelOf the first", x -> x.labelOf(1)).answers(0, "labelOf the last", x -> x.labelOf(5));
        noSuchLot(s.promise(24, none), "strengthOfLot", JarCannery::strengthOfLot)
            .answers(20, "strengthOfLot of the first", x -> x.strengthOfLot(1));
        noSuchLot(s.promise(25, none), "pressureOf", JarCannery::pressureOf)
            .answers(3, "pressureOf the first", x -> x.pressureOf(1)).answers(0, "pressureOf the last", x -> x.pressureOf(5));
        noSuchLot(s.promise(26, none), "lotContains", (x, lot) -> x.lotContains(lot, 0))
            .answers(true, "lotContains of the first", x -> x.lotContains(1, 0));
        s.promise(26, "Throws `IndexOutOfBoundsException` if there is no such raw lot")
            .on(JarLotSentences::lotsWithGaps)
            .refusesEach(new int[] {-1, 6, 32, LOW, HIGH}, "lotContains", (x, raw) -> x.lotContains(1, raw))
            .answers(true, "lotContains of the first raw lot", x -> x.lotContains(1, 0))
            .answers(false, "lotContains of the last raw lot", x -> x.lotContains(1, 5))
            .on(() -> Build.changed(Build.labels("a"), x -> {
                x.addRaw();
                x.mix(1, 9);
                x.fill(0, 0, 0, 1);
            })).refusesEach(new int[] {1, 5, 6}, "lotContains beside one raw lot", (x, raw) -> x.lotContains(0, raw));
    }

    private static void pops(Sentences s) {
        String none = "Throws `NoSuchElementException` if there is no such jar lot";
        noSuchLot(s.promise(27, none), "daysUntilPop", JarCannery::daysUntilPop)
            .answers(57, "daysUntilPop of the first", x -> x.daysUntilPop(1))
            .answers(60, "daysUntilPop of the last", x -> x.daysUntilPop(5));
        noSuchLot(s.promise(28, none), "daysByDivision", JarCannery::daysByDivision)
            .answers(57, "daysByDivision of the first", x -> x.daysByDivision(1))
            .answers(60, "daysByDivision of the last", x -> x.daysByDivision(5));
        Sentence same = s.promise(28, "Returns the same as daysUntilPop, by a division.");
        for (int strength = 1; strength <= 20; strength++) {
            int rise = 21 - strength;
            int last = 60 / rise + (60 % rise > 0 ? 1 : 0);
            int chosen = strength;
            same.on(() -> Build.changed(Build.batches(1, chosen), x -> x.fill(0, 0, 0, 1))).steps((x, check) -> {
                for (int day = 0; day < last; day++) {
                    int want = last - day;
                    check.due("28: strength " + chosen + ", day " + day, want, () -> x.daysByDivision(0));
                    check.due("27: strength " + chosen + ", day " + day, want, () -> x.daysUntilPop(0));
                    x.pass(1);
                }
                check.due("then it pops", 0, x::lotCount);
            });
        }
    }

    private static JarCannery equalPressures() {
        JarCannery x = Build.batches(1, 20, 2, 10);
        x.fill(0, 0, 0, 1);
        x.fill(1, 1, 0, 1);
        x.fill(0, 0, 0, 1);
        x.fill(1, 1, 0, 1);
        x.pass(2);
        x.fill(0, 0, 0, 1);
        x.fill(1, 1, 0, 1);
        x.ship(0);
        return x;
    }

    private static void ranks(Sentences s) {
        Sentence order = s.promise(29, "Returns a stored jar lot in the order of pressure, the greatest first;"
                + " lots with the same pressure are ordered by their numbers.")
            .on(JarLotSentences::equalPressures)
            .answers(1, "rank 0", x -> x.lotByPressure(0))
            .answers(3, "rank 1", x -> x.lotByPressure(1))
            .answers(2, "rank 2", x -> x.lotByPressure(2))
            .answers(4, "rank 3", x -> x.lotByPressure(3))
            .answers(5, "rank 4", x -> x.lotByPressure(4));
        order.on(() -> Build.lots(1)).steps((x, check) -> {
            for (int lot = 1; lot < 8; lot++) {
                x.pass(1);
                x.fill(0, 0, 0, 1);
            }
            x.ship(3);
            x.fill(0, 0, 0, 1);
            int[] lots = {0, 1, 2, 4, 5, 6, 7, 8};
            for (int rank = 0; rank < lots.length; rank++) {
                int asked = rank;
                check.due("rank " + rank + " of lots a day apart", lots[rank], () -> x.lotByPressure(asked));
            }
        });
        order.on(() -> Build.changed(Build.batches(1, 20, 2, 1), x -> {
            for (int lot = 0; lot < 8; lot++) {
                x.fill(lot / 7, lot / 7, 0, 1);
            }
            x.pass(2);
        }))
            .answers(7, "rank 0 of eight, the last", x -> x.lotByPressure(0))
            .steps((x, check) -> {
                x.ship(7);
                check.due("rank 0 when it is shipped", 0, () -> x.lotByPressure(0));
                check.due("rank 6 when it is shipped", 6, () -> x.lotByPressure(6));
            });
        s.promise(29, "`rank`: the rank, from 0")
            .on(() -> Build.lots(5)).answers(0, "rank 0 of one", x -> x.lotByPressure(0))
            .on(JarLotSentences::eightLots).answers(0, "rank 0 of eight", x -> x.lotByPressure(0))
            .answers(7, "rank 7 of eight", x -> x.lotByPressure(7));
        s.promise(29, "Throws `NoSuchElementException` if there is no such rank")
            .refusesEach(new int[] {0, -1}, "rank without any", JarCannery::lotByPressure)
            .on(JarLotSentences::equalPressures)
            .refusesEach(new int[] {-1, 5, 6, 8, LOW, HIGH}, "rank", JarCannery::lotByPressure)
            .on(JarLotSentences::eightLots).refusesEach(new int[] {-1, 8}, "rank of eight", JarCannery::lotByPressure);
    }
}
