import java.util.function.Consumer;

/** The sentences of promises 37 to 48: accounts, lines and checks. */
final class AccountSentences {
    private static final int LOW = Integer.MIN_VALUE;
    private static final int HIGH = Integer.MAX_VALUE;

    private AccountSentences() {
    }

    static void tell(Sentences s) {
        means(s);
        shares(s);
        writeLot(s);
        writeRaws(s);
        lineAt(s);
        consistent(s);
        inconsistent(s.promise(48, "Returns whether this holds."));
    }

    private static void means(Sentences s) {
        s.promise(43, "Returns the sum of the pressures divided by the number of jar lots, both converted to double.")
            .on(() -> Build.lots(9)).answers(0.0, "meanPressure of one new lot", JarCannery::meanPressure)
            .on(() -> Build.changed(Build.lots(9, 1), x -> {
                x.pass(1);
                x.fill(0, 0, 0, 9);
            })).answers(2.0 / 3.0, "meanPressure, not a whole one", JarCannery::meanPressure)
            .on(() -> Build.changed(Build.lots(1, 2, 3, 4, 5, 6, 7, 8), x -> {
                x.pass(30);
                x.pass(29);
            })).answers(59.0, "meanPressure of eight, the greatest", JarCannery::meanPressure);
        s.promise(43, "Throws `ArithmeticException` if no jar lot is stored")
            .refuses("meanPressure of a new object", JarCannery::meanPressure)
            .on(() -> Build.lots()).refuses("meanPressure before a lot", JarCannery::meanPressure)
            .on(() -> Build.changed(Build.lots(3), x -> x.ship(0))).refuses("meanPressure, shipped", JarCannery::meanPressure)
            .on(() -> Build.changed(Build.lots(3), x -> x.recall(0))).refuses("meanPressure, recalled", JarCannery::meanPressure)
            .on(() -> Build.changed(Build.lots(3), x -> {
                x.pass(30);
                x.pass(30);
            })).refuses("meanPressure, popped", JarCannery::meanPressure)
            .on(() -> Build.changed(Build.lots(3), JarCannery::undo)).refuses("meanPressure, undone", JarCannery::meanPressure)
            .on(() -> Build.lots(1)).answers(0.0, "meanPressure of one", JarCannery::meanPressure);
    }

    private static void shares(Sentences s) {
        s.promise(44, "Returns the number of shipped jars divided by the number of filled jars, both converted to float.")
            .on(() -> Build.lots(3)).answers(0.0f, "shippedShare, none shipped", JarCannery::shippedShare)
            .on(() -> Build.changed(Build.lots(3), x -> x.ship(0))).answers(1.0f, "shippedShare, all", JarCannery::shippedShare)
            .on(() -> Build.changed(Build.lots(1, 2), x -> x.ship(0)))
            .answers(1.0f / 3.0f, "shippedShare of a third", JarCannery::shippedShare)
            .on(() -> Build.changed(Build.lots(9, 1), x -> x.ship(1)))
            .answers(0.1f, "shippedShare of a tenth", JarCannery::shippedShare);
        s.promise(44, "Throws `ArithmeticException` if no jars were filled")
            .refuses("shippedShare of a new object", JarCannery::shippedShare)
            .on(() -> Build.lots()).refuses("shippedShare before a lot", JarCannery::shippedShare)
            .on(() -> Build.changed(Build.lots(3), JarCannery::undo)).refuses("shippedShare, undone", JarCannery::shippedShare)
            .on(() -> Build.changed(Build.lots(3), x -> x.recall(0)))
            .answers(0.0f, "shippedShare, none stored", JarCannery::shippedShare)
            .on(() -> Build.lots(1)).answers(0.0f, "shippedShare of one jar", JarCannery::shippedShare);
    }

    private static Sentence lineOf(Sentence sentence, String want, Sentence.Call write) {
        return sentence.steps((x, check) -> {
            check.due("the length of " + want, want.length(), () -> write.on(x));
            check.due("the line", want, () -> Build.line(x, want.length()));
            check.refused("behind the line " + want, IndexOutOfBoundsException.class, () -> x.lineAt(want.length()));
        });
    }

    /** Lot 101 is stored, with a label of six letters. */
    private static JarCannery manyLots() {
        JarCannery x = Build.labels("abcdef");
        x.addRaw();
        x.mix(1, 20);
        for (int lot = 0; lot <= 100; lot++) {
            x.fill(0, 0, 0, 1);
            x.ship(lot);
        }
        x.fill(0, 0, 0, 9);
        return x;
    }

    private static void writeLot(Sentences s) {
        Sentence line = s.promise(45, "Writes a jar lot into the line, which replaces the previous line: its number, \":\","
                + " its number of jars, \"x\", the letters of its label, \"/\" and its pressure; for example \"3:5xabba/42\".");
        line.on(() -> Build.changed(Build.batches(1, 7), x -> {
            for (int lot = 0; lot < 4; lot++) {
                x.fill(0, 0, 0, 5);
            }
            x.pass(3);
        }));
        lineOf(line, "3:5xabba/42", x -> x.writeLot(3));
        line.on(() -> Build.changed(Build.lots(1), JarCannery::writeRaws));
        lineOf(line, "0:1xabba/0", x -> x.writeLot(0));
        line.on(AccountSentences::manyLots);
        lineOf(line, "101:9xabcdef/0", x -> x.writeLot(101));
        line.on(() -> Build.changed(manyLots(), x -> {
            x.pass(30);
            x.pass(29);
        }));
        lineOf(line, "101:9xabcdef/59", x -> x.writeLot(101));
        line.on(() -> Build.changed(manyLots(), x -> {
            x.writeLot(101);
            Build.label(x, "h");
            x.ship(101);
            x.undo();
            x.undo();
            Build.label(x, "b");
            x.fill(0, 0, 1, 3);
        }));
        lineOf(line, "102:3xb/0", x -> x.writeLot(102));
        JarLotSentences.noSuchLot(s.promise(45, "Throws `NoSuchElementException` if there is no such jar lot"), "writeLot",
                JarCannery::writeLot)
            .answers(10, "writeLot of the first", x -> x.writeLot(1))
            .on(() -> Build.changed(JarLotSentences.lotsWithGaps(), x -> x.writeLot(1)))
            .refuses("writeLot where a line stands", x -> x.writeLot(2));
    }

    private static void writeRaws(Sentences s) {
        Sentence line = s.promise(46, "Writes the raw lots into the line, which replaces the previous line: for each raw lot"
                + " \"x\" if it is faulty, \"*\" if it is not and is in the best test set, or \".\" otherwise.");
        line.on(JarCannery::new);
        lineOf(line, "", JarCannery::writeRaws);
        line.on(() -> Build.raws(1));
        lineOf(line, ".", JarCannery::writeRaws);
        line.on(() -> Build.changed(Build.raws(6), x -> x.recall(5)));
        lineOf(line, ".....x", JarCannery::writeRaws);
        line.on(() -> Build.changed(Build.batches(6, 20, 32, 20), x -> {
            x.fill(0, 0, 0, 1);
            x.fill(1, 1, 0, 1);
            x.recall(0);
            x.writeLot(1);
        }));
        lineOf(line, "x*...*", JarCannery::writeRaws);
        line.on(() -> Build.changed(Build.lots(1), x -> {
            x.writeLot(0);
            x.recall(0);
        }));
        lineOf(line, "x.....", JarCannery::writeRaws);
    }

    private static void lineAt(Sentences s) {
        s.promise(47, "Returns a character of the line, which is empty at first.")
            .answers("throws IndexOutOfBoundsException", "lineAt of a new object", x -> x.lineAt(0))
            .on(() -> Build.lots(4)).answers("throws IndexOutOfBoundsException", "lineAt before a line", x -> x.lineAt(0))
            .on(() -> Build.changed(Build.lots(4), x -> x.writeLot(0))).answers("0:4xabba/0", "the line", x -> Build.line(x, 10));
        s.promise(47, "`index`: index of the character, from 0")
            .on(() -> Build.changed(Build.lots(4), x -> x.writeLot(0)))
            .answers('0', "the first", x -> x.lineAt(0))
            .answers(':', "the second", x -> x.lineAt(1))
            .answers('/', "the last but one", x -> x.lineAt(8))
            .answers('0', "the last", x -> x.lineAt(9));
        s.promise(47, "Throws `IndexOutOfBoundsException` if there is no such character")
            .refusesEach(new int[] {0, -1}, "lineAt of a new object", JarCannery::lineAt)
            .on(() -> Build.changed(new JarCannery(), JarCannery::writeRaws))
            .refusesEach(new int[] {0, -1}, "lineAt of an empty line", JarCannery::lineAt)
            .on(() -> Build.changed(Build.lots(4), x -> x.writeLot(0)))
            .refusesEach(new int[] {-1, 10, 11, 59, 60, LOW, HIGH}, "lineAt", JarCannery::lineAt)
            .on(() -> Build.changed(Build.lots(4), x -> {
                x.writeLot(0);
                x.writeRaws();
            })).refusesEach(new int[] {6, 9}, "lineAt of a shorter line", JarCannery::lineAt)
            .answers('.', "the last of the shorter line", x -> x.lineAt(5));
    }

    private static void consistent(Sentences s) {
        s.promise(48, "Returns whether the cannery is consistent: affectedLots and affectedBySets agree for all raw lots;"
                + " daysUntilPop and daysByDivision agree for all stored jar lots; leastCrates and leastCratesByTrial agree"
                + " for the capacities 9 and 20; fewestTests and fewestTestsByBranching agree; and the filled jars are the sum"
                + " of those that are stored, were shipped, were recalled, and were spoiled.")
            .answers(true, "isConsistent of a new object", JarCannery::isConsistent)
            .on(() -> Build.raws(6)).answers(true, "isConsistent without lots", JarCannery::isConsistent)
            .on(() -> Build.lots(9, 9, 9, 9, 9, 9, 9, 9)).answers(true, "isConsistent of eight", JarCannery::isConsistent)
            .on(() -> Build.lots(5, 4, 5, 4, 7, 2, 3, 6)).answers(true, "isConsistent of others", JarCannery::isConsistent)
            .on(JarLotSentences::lotsWithGaps).answers(true, "isConsistent with gaps", JarCannery::isConsistent)
            .on(() -> Build.changed(Build.lots(4), x -> Check.answer(() -> x.ship(1))))
            .answers(true, "isConsistent after a refused call", JarCannery::isConsistent);
    }

    private static Sentence spoilt(Sentence sentence, boolean want, String told, Consumer<JarCannery> inside) {
        return sentence.on(() -> Build.changed(Build.lots(5), inside))
            .answers(want, "isConsistent with " + told, JarCannery::isConsistent);
    }

    private static void uneven(Sentence sentence, String told, int first, int... others) {
        sentence.on(() -> Build.changed(Build.lots(9), x -> {
            int sum = first;
            for (int jars : others) {
                x.fill(0, 0, 0, jars);
                sum += jars;
            }
            Inside.put(x, "state.lots.jars", first);
            Inside.put(x, "state.filledJars", sum);
        })).answers(false, "isConsistent with uneven " + told, JarCannery::isConsistent);
    }

    /** No run of calls makes an inconsistent cannery, so these are made from inside, each with one thing amiss. */
    private static void inconsistent(Sentence holds) {
        spoilt(holds, false, "a filled jar more", x -> Inside.put(x, "state.filledJars", 6));
        spoilt(holds, false, "a shipped jar more", x -> Inside.put(x, "state.shippedJars", 1));
        spoilt(holds, false, "a recalled jar more", x -> Inside.put(x, "state.recalledJars", 1));
        spoilt(holds, false, "a spoiled jar more", x -> Inside.put(x, "state.spoiledJars", 1));
        spoilt(holds, false, "a stored jar more", x -> Inside.put(x, "state.lots.jars", 6));
        spoilt(holds, true, "a filled and a shipped jar more", x -> {
            Inside.put(x, "state.filledJars", 6);
            Inside.put(x, "state.shippedJars", 1);
        });
        spoilt(holds, false, "a batch that affectedLots does not see", x -> Inside.put(x, "state.brine.batches", 0));
        spoilt(holds, false, "a pressure far too great", x -> Inside.put(x, "state.lots.pressures", 100));
        spoilt(holds, false, "a lot that no crate takes", x -> {
            Inside.put(x, "state.lots.jars", 15);
            Inside.put(x, "state.filledJars", 15);
        });
        // With such a first lot the two ways of counting crates agree for the capacities beside 9, or beside 20.
        uneven(holds, "crates of 9 alone", -17, 3, 8, 9, 8, 9, 7);
        uneven(holds, "crates of 20 alone", -25, 3, 5, 5, 8, 8, 8, 8);
        spoilt(holds, false, "a lot of no raw lots", x -> {
            Inside.put(x, "state.brine.sources", 0);
            Inside.put(x, "state.brine.raws", 1);
        });
    }
}
