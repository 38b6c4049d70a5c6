import java.util.Arrays;
import java.util.NoSuchElementException;

/** The sentences of "What it is" and of the terms that tell of raw lots, batches, labels, jar lots, days and recalls. */
final class TermsOfThings {
    private TermsOfThings() {
    }

    static void tell(Sentences s) {
        calls(s);
        raws(s);
        batches(s);
        labels(s);
        jarLots(s);
        partsOfJarLots(s);
        days(s);
        recalls(s);
        crates(s);
        tests(s);
    }

    private static void calls(Sentences s) {
        s.of("What it is", "An object is used for at most 512 calls after it has been made; what later calls answer is free.")
            .steps((x, check) -> {
                check.due("call 1", 0, x::addRaw);
                check.due("call 2", 0, () -> x.mix(1, 20));
                check.due("call 3", 1, () -> x.type('a'));
                check.due("call 4", 0, x::addLabel);
                for (int lot = 0; lot < 254; lot++) {
                    int number = lot;
                    check.due("call " + (5 + 2 * lot), number, () -> x.fill(0, 0, 0, 9));
                    check.due("call " + (6 + 2 * lot), 9, () -> x.ship(number));
                }
            })
            .steps((x, check) -> {
                for (int call = 1; call < 512; call++) {
                    x.pass(30);
                }
                check.due("the days at call 512", 15330, x::dayCount);
            });
    }

    private static void raws(Sentences s) {
        s.terms("There are at most 6 raw lots, numbered from 0 in the order in which they were added.")
            .steps((x, check) -> {
                for (int raw = 0; raw < 6; raw++) {
                    check.due("addRaw", raw, x::addRaw);
                }
                check.refused("a seventh", IllegalStateException.class, x::addRaw);
                check.refused("a seventh by a text", IllegalStateException.class, () -> Build.execute(x, "raw"));
                check.due("rawCount", 6, x::rawCount);
                x.undo();
                check.due("the sixth again", 5, x::addRaw);
            });
        s.terms("A raw lot is faulty or not, at first not.")
            .on(() -> Build.raws(6))
            .steps((x, check) -> {
                for (int raw = 0; raw < 6; raw++) {
                    int chosen = raw;
                    check.due("isFaulty at first", false, () -> x.isFaulty(chosen));
                    x.recall(raw);
                    check.due("isFaulty after the recall", true, () -> x.isFaulty(chosen));
                }
                for (int raw = 0; raw < 6; raw++) {
                    int chosen = raw;
                    check.due("isFaulty after the other recalls", true, () -> x.isFaulty(chosen));
                }
            })
            .on(() -> Build.changed(Build.raws(1), x -> {
                x.recall(0);
                x.addRaw();
            })).answers(false, "one added behind a faulty one", x -> x.isFaulty(1))
            .on(() -> Build.changed(Build.raws(1), x -> {
                x.recall(0);
                x.undo();
                x.undo();
                x.addRaw();
            })).answers(false, "one added again", x -> x.isFaulty(0));
        s.terms("A set of raw lots is told as the sum of 2 to the power of each of their numbers.")
            .on(() -> Build.batches(1, 5, 32, 5, 63, 5, 21, 5))
            .answers("100000", "the set 1", x -> rawsOf(x, 0))
            .answers("000001", "the set 32", x -> rawsOf(x, 1))
            .answers("111111", "the set 63", x -> rawsOf(x, 2))
            .answers("101010", "the set 21", x -> rawsOf(x, 3));
    }

    private static String rawsOf(JarCannery x, int batch) {
        StringBuilder raws = new StringBuilder();
        for (int raw = 0; raw < x.rawCount(); raw++) {
            raws.append(x.batchContains(batch, raw) ? '1' : '0');
        }
        return raws.toString();
    }

    private static void batches(Sentences s) {
        s.terms("There are at most 6 batches of brine, numbered from 0 in the order in which they were mixed.")
            .on(() -> Build.raws(6)).steps((x, check) -> {
                for (int batch = 0; batch < 6; batch++) {
                    int number = batch;
                    check.due("mix", number, () -> x.mix(1 << number, number + 1));
                }
                check.refused("a seventh", IllegalStateException.class, () -> x.mix(1, 1));
                check.refused("a seventh by a text", IllegalStateException.class, () -> Build.execute(x, "mix 1 1"));
                check.due("batchCount", 6, x::batchCount);
                for (int batch = 0; batch < 6; batch++) {
                    int number = batch;
                    check.due("strengthOf", number + 1, () -> x.strengthOf(number));
                    check.due("batchContains", true, () -> x.batchContains(number, number));
                }
            });
        s.terms("A batch has a strength from 1 to 20, and contains the raw lots of a set.")
            .on(() -> Build.raws(6))
            .answers("throws IllegalArgumentException", "strength 0", x -> x.mix(1, 0))
            .answers("throws IllegalArgumentException", "strength 21", x -> x.mix(1, 21))
            .on(() -> Build.batches(32, 1, 62, 20))
            .answers(1, "the weakest", x -> x.strengthOf(0))
            .answers(20, "the strongest", x -> x.strengthOf(1))
            .answers("000001", "one raw lot", x -> rawsOf(x, 0))
            .answers("011111", "five raw lots", x -> rawsOf(x, 1));
    }

    private static void labels(Sentences s) {
        s.terms("There are at most 8 different labels, numbered from 0 in the order in which they were added.")
            .steps((x, check) -> {
                for (int label = 0; label < 8; label++) {
                    String letters = "h".repeat(label % 6) + (char) ('a' + label);
                    check.due("addLabel", label, () -> Build.label(x, letters));
                    check.refused("the same again", IllegalStateException.class, () -> Build.label(x, letters));
                }
                check.refused("a ninth", IllegalStateException.class, () -> Build.label(x, "ab"));
                check.due("labelCount", 8, x::labelCount);
                for (int label = 0; label < 8; label++) {
                    int number = label;
                    check.due("labelLength", number % 6 + 1, () -> x.labelLength(number));
                    check.due("labelLetter", (char) ('a' + number), () -> x.labelLetter(number, number % 6));
                }
            });
        s.terms("A label has 1 to 6 letters from a to h.")
            .answers("throws IllegalArgumentException", "no letter", x -> Build.label(x, ""))
            .answers("throws IllegalArgumentException", "seven letters", x -> Build.label(x, "abcdefg"))
            .answers("throws IllegalArgumentException", "an i", x -> Build.label(x, "i"))
            .answers("throws IllegalArgumentException", "what is before a", x -> Build.label(x, "`"))
            .answers(0, "one letter", x -> Build.label(x, "a"))
            .answers(0, "six letters", x -> Build.label(x, "fedcba"))
            .answers(0, "six h", x -> Build.label(x, "hhhhhh"));
        Sentence steps = s.terms("The distance of two texts is the least number of steps that make one of the other,"
                + " where a step adds a letter, removes one, or replaces one by another one.");
        String[][] cases = {{"a", "a", "0"}, {"a", "b", "1"}, {"a", "ab", "1"}, {"ab", "b", "1"}, {"ab", "ba", "2"},
            {"abc", "ca", "3"}, {"aab", "baa", "2"}, {"gggggggggggg", "h", "12"}, {"h", "gggggg", "6"}, {"abab", "baba", "2"}};
        for (String[] one : cases) {
            steps.on(() -> Build.typed(Build.labels(one[1]), one[0]))
                .answers(one[2], "distanceTo, " + one[0] + " and " + one[1], x -> x.distanceTo(0))
                .answers(one[2], "distanceByLetters, " + one[0] + " and " + one[1], x -> x.distanceByLetters(0));
        }
    }

    private static void jarLots(Sentences s) {
        s.terms("Jars that were filled are stored, shipped, recalled, or spoiled.")
            .on(JarLotSentences::lotsWithGaps)
            .answers(21, "filled", JarCannery::filled)
            .answers(12, "stored", JarCannery::stored)
            .answers(1, "shipped", JarCannery::shipped)
            .answers(5, "recalled", JarCannery::recalled)
            .answers(3, "spoiled", JarCannery::spoiled)
            .on(() -> Build.changed(JarLotSentences.lotsWithGaps(), x -> {
                x.ship(3);
                x.recall(0);
                x.fill(1, 1, 0, 8);
                x.pass(3);
            }))
            .answers(29, "filled, later", JarCannery::filled)
            .answers(0, "stored, later", JarCannery::stored)
            .answers(5, "shipped, later", JarCannery::shipped)
            .answers(13, "recalled, later", JarCannery::recalled)
            .answers(11, "spoiled, later", JarCannery::spoiled);
        s.terms("At most 8 jar lots are stored.")
            .on(() -> Build.lots(1, 1, 1, 1, 1, 1, 1)).steps((x, check) -> {
                check.due("the eighth", 7, () -> x.fill(0, 0, 0, 9));
                check.refused("a ninth", IllegalStateException.class, () -> x.fill(0, 0, 0, 9));
                check.refused("a ninth by a text", IllegalStateException.class, () -> Build.execute(x, "fill 0 0 0 9"));
                check.due("lotCount", 8, x::lotCount);
                check.due("stored", 16, x::stored);
                check.due("room by the text itself", 2, () -> Build.execute(x, "ship 7;fill 0 0 0 8"));
                check.due("stored", 15, x::stored);
            });
        s.terms("They get ascending numbers, beginning with 0; a number is not given again.")
            .on(() -> Build.lots()).steps((x, check) -> {
                check.due("the first", 0, () -> x.fill(0, 0, 0, 1));
                check.due("the second", 1, () -> x.fill(0, 0, 0, 1));
                x.ship(1);
                check.due("one after the last was shipped", 2, () -> x.fill(0, 0, 0, 1));
                x.pass(30);
                x.pass(30);
                check.due("one after all have popped", 3, () -> x.fill(0, 0, 0, 1));
                x.mix(2, 20);
                x.recall(0);
                check.due("one after all were recalled", 4, () -> x.fill(1, 1, 0, 1));
                check.refused("a full range", IllegalArgumentException.class, () -> x.fill(1, 1, 0, 10));
                check.due("one after a refused call", 5, () -> x.fill(1, 1, 0, 1));
                check.due("two by a text", 2, () -> Build.execute(x, "fill 1 1 0 1;fill 1 1 0 1"));
                check.due("one after the text", 8, () -> x.fill(1, 1, 0, 1));
                check.due("in their order", "4 5 6 7 8", () -> lotsOf(x));
            });
    }

    private static String lotsOf(JarCannery x) {
        StringBuilder lots = new StringBuilder();
        for (int position = 0; position < x.lotCount(); position++) {
            lots.append(position > 0 ? " " : "").append(x.lotAt(position));
        }
        return lots.toString();
    }

    private static void partsOfJarLots(Sentences s) {
        s.terms("A jar lot has 1 to 9 jars, a label, one or two batches, and a pressure, at first 0.")
            .on(() -> Build.lots(9)).steps((x, check) -> {
                check.refused("no jars", IllegalArgumentException.class, () -> x.fill(0, 0, 0, 0));
                check.refused("ten jars", IllegalArgumentException.class, () -> x.fill(0, 0, 0, 10));
                Build.label(x, "h");
                x.pass(5);
                x.ship(0);
                x.fill(0, 0, 1, 1);
                check.due("the jars", 1, () -> x.jarsOf(1));
                check.due("the label", 1, () -> x.labelOf(1));
                check.due("the pressure at first", 0, () -> x.pressureOf(1));
            })
            .on(() -> Build.changed(Build.lots(1, 2, 3, 4, 5, 6, 7, 8), x -> {
                x.pass(5);
                x.ship(7);
                x.fill(0, 0, 0, 9);
            })).answers(0, "the pressure at first, in a place that another lot had", x -> x.pressureOf(8))
            .on(() -> Build.lots(9))
            .answers(0, "the pressure of the first lot", x -> x.pressureOf(0));
        s.terms("Its strength is the mean of the strengths of its batches, rounded down.")
            .on(() -> Build.changed(Build.batches(1, 1, 1, 2, 1, 19, 1, 20), x -> {
                x.fill(0, 0, 0, 1);
                x.fill(0, 1, 0, 1);
                x.fill(1, 0, 0, 1);
                x.fill(2, 3, 0, 1);
                x.fill(3, 3, 0, 1);
                x.fill(0, 3, 0, 1);
                x.fill(1, 3, 0, 1);
            }))
            .answers(1, "1 and 1", x -> x.strengthOfLot(0))
            .answers(1, "1 and 2", x -> x.strengthOfLot(1))
            .answers(1, "2 and 1", x -> x.strengthOfLot(2))
            .answers(19, "19 and 20", x -> x.strengthOfLot(3))
            .answers(20, "20 and 20", x -> x.strengthOfLot(4))
            .answers(10, "1 and 20", x -> x.strengthOfLot(5))
            .answers(11, "2 and 20", x -> x.strengthOfLot(6));
        s.terms("It contains the raw lots that its batches contain.")
            .on(() -> Build.changed(Build.batches(1, 5, 48, 5), x -> {
                x.fill(0, 0, 0, 1);
                x.fill(0, 1, 0, 1);
            }))
            .answers("100000", "one batch", x -> rawsOfLot(x, 0))
            .answers("100011", "two batches", x -> rawsOfLot(x, 1));
    }

    private static String rawsOfLot(JarCannery x, int lot) {
        StringBuilder raws = new StringBuilder();
        for (int raw = 0; raw < x.rawCount(); raw++) {
            raws.append(x.lotContains(lot, raw) ? '1' : '0');
        }
        return raws.toString();
    }

    private static JarCannery lotOf(int strength) {
        return Build.changed(Build.batches(1, strength), x -> x.fill(0, 0, 0, 3));
    }

    private static void days(Sentences s) {
        s.terms("When a day passes, the number of days increases by 1, and the pressure of each jar lot increases by 21 minus"
                + " its strength.")
            .on(() -> Build.changed(lotOf(1), x -> x.pass(1))).answers(20, "strength 1", x -> x.pressureOf(0))
            .answers(1, "dayCount", JarCannery::dayCount)
            .on(() -> Build.changed(lotOf(20), x -> x.pass(1))).answers(1, "strength 20", x -> x.pressureOf(0))
            .on(() -> Build.changed(lotOf(20), x -> x.pass(30))).answers(30, "strength 20, 30 days", x -> x.pressureOf(0))
            .on(() -> Build.changed(new JarCannery(), x -> x.pass(1))).answers(1, "no lot", JarCannery::dayCount)
            .on(() -> Build.changed(Build.lots(1, 2, 3, 4, 5, 6, 7, 8), x -> x.pass(1)))
            .answers(1, "the first of eight", x -> x.pressureOf(0))
            .answers(1, "the last of eight", x -> x.pressureOf(7));
        Sentence pop = s.terms("Then the lids of all jar lots whose pressure is at least 60 pop;"
                + " these lots are spoiled and not stored any more.");
        popping(pop, 20, 59, 60);
        popping(pop, 1, 2, 3);
        popping(pop, 6, 3, 4);
        popping(pop, 14, 8, 9);
        popping(pop, 10, 5, 6);
        pop.on(() -> Build.changed(Build.lots(1, 2, 3, 4, 5, 6, 7, 8), x -> x.pass(30))).steps((x, check) -> {
            check.due("none of eight", 0, () -> x.pass(29));
            check.due("all of eight", 8, () -> x.pass(1));
            check.due("spoiled", 36, x::spoiled);
            check.due("stored", 0, x::stored);
        });
        pop.on(() -> Build.changed(Build.batches(1, 20, 1, 1, 1, 11), x -> {
            x.fill(2, 2, 0, 4);
            x.fill(1, 1, 0, 2);
            x.fill(0, 0, 0, 1);
            x.fill(1, 2, 0, 3);
        })).steps((x, check) -> {
            check.due("one after the other, in one call", 3, () -> x.pass(30));
            check.due("the weakest stays", "2", () -> lotsOf(x));
            check.due("spoiled", 9, x::spoiled);
        });
        pop.on(() -> Build.changed(Build.batches(1, 20, 1, 1), x -> {
            x.fill(1, 1, 0, 1);
            x.fill(0, 0, 0, 2);
            x.fill(1, 1, 0, 3);
            x.fill(1, 1, 0, 4);
            x.pass(2);
            x.fill(1, 1, 0, 5);
        })).steps((x, check) -> {
            check.due("neighbours pop together", 3, () -> x.pass(1));
            check.due("the others stay", "1 4", () -> lotsOf(x));
            check.due("spoiled", 8, x::spoiled);
        });
    }

    /** A lot of such a strength is stored after the last day, and pops on the next one. */
    private static void popping(Sentence pop, int strength, int last, int next) {
        pop.on(() -> lotOf(strength)).steps((x, check) -> {
            for (int day = 1; day < next; day++) {
                check.due("strength " + strength + ", day " + day, 0, () -> x.pass(1));
            }
            check.due("the pressure of the last day", last * (21 - strength), () -> x.pressureOf(0));
            check.due("the next day, strength " + strength, 1, () -> x.pass(1));
            check.due("spoiled", 3, x::spoiled);
            check.refused("it is gone", NoSuchElementException.class, () -> x.pressureOf(0));
        });
    }

    private static void recalls(Sentences s) {
        s.terms("When a raw lot is recalled, it becomes faulty, and all stored jar lots that contain it are recalled"
                + " and not stored any more.")
            .on(() -> Build.lots(1, 2, 3, 4, 5, 6, 7, 8)).steps((x, check) -> {
                check.due("all of eight", 8, () -> x.recall(0));
                check.due("isFaulty", true, () -> x.isFaulty(0));
                check.due("stored", 0, x::stored);
                check.due("recalled", 36, x::recalled);
            })
            .on(() -> Build.changed(Build.batches(1, 20, 34, 20, 4, 20), x -> {
                x.fill(1, 1, 0, 1);
                x.fill(0, 1, 0, 2);
                x.fill(0, 2, 0, 3);
                x.fill(2, 1, 0, 4);
                x.ship(0);
            })).steps((x, check) -> {
                check.due("those of either batch", 2, () -> x.recall(5));
                check.due("the others stay", "2", () -> lotsOf(x));
                check.due("a shipped one is not recalled", 6, x::recalled);
                check.refused("it is gone", NoSuchElementException.class, () -> x.jarsOf(1));
            });
        s.terms("A raw lot that no jar lot contains can be recalled, too.")
            .on(() -> Build.raws(1)).answers(0, "recall without lots", x -> x.recall(0))
            .on(() -> Build.lots(1, 2)).steps((x, check) -> {
                check.due("recall of another", 0, () -> x.recall(5));
                check.due("isFaulty", true, () -> x.isFaulty(5));
                check.due("the lots stay", 2, x::lotCount);
                check.due("it can be undone", true, () -> x.undo() > 0);
                check.due("isFaulty after the undo", false, () -> x.isFaulty(5));
            });
    }

    private static void crates(Sentences s) {
        Sentence whole = s.terms("All stored jar lots are put into crates without dividing a lot,"
                + " so that no crate has more jars than its capacity.");
        // The capacity, the crates that are due, and the jars: crates filled to the brim, and lots that cannot be divided.
        int[][] cases = {{9, 1, 5, 4}, {9, 2, 5, 4, 1}, {9, 3, 5, 5, 5}, {10, 2, 7, 7}, {40, 1, 9, 9, 9, 9, 4},
            {40, 2, 9, 9, 9, 9, 5}, {13, 3, 9, 9, 8}, {14, 1, 9, 5}, {13, 2, 9, 5}, {18, 4, 9, 9, 9, 9, 9, 9, 9, 9}};
        for (int[] one : cases) {
            int[] jars = Arrays.copyOfRange(one, 2, one.length);
            whole.on(() -> Build.lots(jars))
                .answers(one[1], "leastCrates of " + one[0] + " for " + jars.length + " lots", x -> x.leastCrates(one[0]))
                .answers(one[1], "leastCratesByTrial of " + one[0], x -> x.leastCratesByTrial(one[0]));
        }
        whole.on(() -> Build.changed(Build.lots(9, 5, 4), x -> x.ship(0)))
            .answers(1, "a shipped lot needs none", x -> x.leastCrates(9))
            .answers(1, "a shipped lot needs none, by trial", x -> x.leastCratesByTrial(9));
    }

    /** A lot of each set. */
    private static JarCannery lotsOf(int... sets) {
        JarCannery x = Build.raws(6);
        Build.label(x, "a");
        for (int batch = 0; batch < sets.length; batch++) {
            x.mix(sets[batch], 20);
            x.fill(batch, batch, 0, 1);
        }
        return x;
    }

    private static String bestTests(JarCannery x) {
        StringBuilder tests = new StringBuilder();
        for (int raw = 0; raw < x.rawCount(); raw++) {
            tests.append(x.isTested(raw) ? '1' : '0');
        }
        return tests.append(' ').append(x.fewestTests()).append(x.fewestTestsByBranching()).toString();
    }

    private static void tests(Sentences s) {
        s.terms("A set of raw lots is a test set if every stored jar lot contains at least one of them.")
            .on(() -> lotsOf(32)).answers("000001 11", "one lot", TermsOfThings::bestTests)
            .on(() -> lotsOf(1, 2)).answers("110000 22", "two lots", TermsOfThings::bestTests)
            .on(() -> lotsOf(1, 2, 4, 8, 16, 32)).answers("111111 66", "all raw lots", TermsOfThings::bestTests)
            .on(() -> Build.changed(lotsOf(1, 2), x -> x.ship(0)))
            .answers("010000 11", "one is shipped", TermsOfThings::bestTests)
            .on(() -> Build.changed(lotsOf(1, 2, 3), x -> x.recall(0)))
            .answers("010000 11", "two are recalled", TermsOfThings::bestTests);
        s.terms("The best test set is the one with the fewest raw lots; of several, it is the one with the smallest sum"
                + " of 2 to the power of each number.")
            .on(() -> lotsOf(63)).answers("100000 11", "any of six", TermsOfThings::bestTests)
            .on(() -> lotsOf(3, 6, 2 | 32)).answers("010000 11", "one for three lots", TermsOfThings::bestTests)
            .on(() -> lotsOf(33, 34, 36)).answers("000001 11", "the greatest number, but alone", TermsOfThings::bestTests)
            .on(() -> lotsOf(3, 12)).answers("101000 22", "the smallest of four sums", TermsOfThings::bestTests)
            .on(() -> lotsOf(9, 10, 5, 24)).answers("100100 22", "8 and 1, not 8 and 4", TermsOfThings::bestTests)
            .on(() -> lotsOf(17, 34, 12)).answers("111000 33", "the smallest of eight sums", TermsOfThings::bestTests)
            .on(() -> lotsOf(17, 18, 40, 33)).answers("000011 22", "16 and 32, not 7 of three", TermsOfThings::bestTests);
        s.terms("If no jar lot is stored, the best test set is empty, and no crate is needed.")
            .answers(" 00", "a new object", TermsOfThings::bestTests)
            .answers(0, "leastCrates of a new object", x -> x.leastCrates(9))
            .answers(0, "leastCratesByTrial of a new object", x -> x.leastCratesByTrial(9))
            .on(() -> Build.batches(63, 1)).answers("000000 00", "no lot yet", TermsOfThings::bestTests)
            .answers("......", "writeRaws before a lot", x -> Build.line(x, x.writeRaws()))
            .on(() -> Build.changed(Build.lots(9), x -> x.ship(0)))
            .answers("000000 00", "no lot any more", TermsOfThings::bestTests)
            .answers(0, "leastCrates of 40", x -> x.leastCrates(40))
            .answers(0, "leastCratesByTrial of 40", x -> x.leastCratesByTrial(40));
    }
}
