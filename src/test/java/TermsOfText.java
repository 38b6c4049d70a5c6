import java.util.NoSuchElementException;
import java.util.function.Consumer;

/** The sentences of the terms that tell of text, undo and exceptions. */
final class TermsOfText {
    /** A text of 60 characters. */
    static final String FULL = "day 1;day 30" + ";day".repeat(12);

    private TermsOfText() {
    }

    static void tell(Sentences s) {
        buffer(s);
        grammar(s);
        commands(s);
        errorPositions(s);
        undo(s);
        modifications(s);
        notOfTheState(s);
        firstDocumented(s);
        unchanged(s);
    }

    private static void buffer(Sentences s) {
        s.terms("Characters are collected in a buffer of at most 60 characters;"
                + " it is used for labels, for scanning and for commands.")
            .steps((x, check) -> {
                for (int length = 1; length <= 60; length++) {
                    check.due("type", length, () -> x.type('a'));
                }
                check.refused("a 61st", IllegalStateException.class, () -> x.type('a'));
                check.due("the buffer", 60, x::clearText);
            })
            .steps((x, check) -> {
                check.due("a label", 0, () -> Build.label(x, "abc"));
                Build.type(x, "ab");
                check.due("a scan", 0, x::scan);
                check.due("a distance", 1, () -> x.distanceTo(0));
                check.due("commands of 60 characters", 14, () -> Build.execute(x, FULL));
            })
            .answers(1, "what stood before counts, too", x -> Build.typed(Build.typed(x, "da"), "y").execute());
    }

    private static void good(Sentence grammar, int count, String text) {
        grammar.on(TermsOfText::oneLot).answers(count, text, x -> Build.execute(x, text));
    }

    private static void bad(Sentence grammar, String text) {
        grammar.on(TermsOfText::oneLot).answers("throws IllegalArgumentException", text, x -> Build.execute(x, text));
    }

    private static JarCannery oneLot() {
        return Build.changed(Build.lots(5), x -> x.pass(2));
    }

    private static void grammar(Sentences s) {
        Sentence grammar = s.terms("A command text has the following grammar, with terminals in quotes:"
                + " text = command { \";\" command }; command = \"raw\" | \"mix\" n n | \"fill\" d d d d | \"ship\" n"
                + " | \"day\" [ n ] | \"recall\" d; d is a blank and a decimal digit, and n is a blank and one or two"
                + " decimal digits.");
        good(grammar, 1, "day");
        good(grammar, 1, "day 1");
        good(grammar, 1, "day 30");
        good(grammar, 1, "day 09");
        good(grammar, 1, "mix 1 1");
        good(grammar, 1, "mix 63 20");
        good(grammar, 1, "mix 05 09");
        good(grammar, 1, "fill 0 0 0 9");
        good(grammar, 1, "ship 0");
        good(grammar, 1, "ship 00");
        good(grammar, 1, "recall 5");
        good(grammar, 3, "day;day 2;ship 0");
        good(grammar, 15, "day" + ";day".repeat(14));
        good(grammar, 14, FULL);
        for (String text : new String[] {"", " ", ";", "raw;", ";raw", "raw;;raw", "raw ", " raw", "RAW", "raw 1", "raws", "ra",
            "mix", "mix 1", "mix 1 ", "mix 1 1 1", "mix 1 001", "mix 001 1", "mix1 1", "mix 1,1", "mix  1 1", "mix -1 1",
            "fill 0 0 0", "fill 0 0 0 ", "fill 0 0 0 01", "fill 00 0 0 1", "fill 0 00 0 1", "fill 0 0 00 1", "fill 0 0 0 1 1",
            "ship", "ship ", "ship 000", "ship x", "ship0", "day ", "day x", "day 001", "day1", "day 1 1", "days", "recall",
            "recall ", "recall 05", "recall x", "recall5", "day,day", "day :", "day /", "raw;day;x"}) {
            bad(grammar, text);
        }
    }

    private static void told(Sentence stand, String text, String want) {
        stand.on(TermsOfText::oneLot).answers(want, text, x -> {
            Build.execute(x, text);
            return Build.sight(x);
        });
    }

    private static void commands(Sentences s) {
        Sentence stand = s.terms("The commands stand for addRaw, mix, fill, ship, pass with the number or with 1, and recall,"
                + " with their parameters in order.");
        String all = " . . . . . .";
        told(stand, "day", "6 1 1 3 5 0 0 0" + all + " b20/100000 labba #0:5,0,20,3");
        told(stand, "day 1", "6 1 1 3 5 0 0 0" + all + " b20/100000 labba #0:5,0,20,3");
        told(stand, "day 30", "6 1 1 32 5 0 0 0" + all + " b20/100000 labba #0:5,0,20,32");
        told(stand, "day 2;day", "6 1 1 5 5 0 0 0" + all + " b20/100000 labba #0:5,0,20,5");
        told(stand, "mix 2 9", "6 2 1 2 5 0 0 0" + all + " b20/100000 b9/010000 labba #0:5,0,20,2");
        told(stand, "mix 20 1", "6 2 1 2 5 0 0 0" + all + " b20/100000 b1/001010 labba #0:5,0,20,2");
        told(stand, "mix 2 10;fill 0 1 0 7", "6 2 1 2 12 0 0 0" + all
                + " b20/100000 b10/010000 labba #0:5,0,20,2 #1:7,0,15,0");
        told(stand, "ship 0", "6 1 1 2 5 5 0 0" + all + " b20/100000 labba");
        told(stand, "recall 0", "6 1 1 2 5 0 5 0 x . . . . . b20/100000 labba");
        told(stand, "recall 5", "6 1 1 2 5 0 0 0 . . . . . x b20/100000 labba #0:5,0,20,2");
        stand.on(() -> Build.changed(new JarCannery(), x -> Build.execute(x, "raw"))).answers(1, "raw", JarCannery::rawCount);
        stand.on(() -> Build.changed(oneLot(), x -> {
            Build.label(x, "h");
            Build.execute(x, "mix 2 1;fill 0 0 1 3");
        })).answers(1, "the label of a fill", x -> x.labelOf(1)).answers(3, "the jars of a fill", x -> x.jarsOf(1));
    }

    private static void errorPositions(Sentences s) {
        Sentence position = s.terms("The error position of a malformed text is the index of its first character that cannot"
                + " continue any valid text, or its length if it ends too early.");
        String[] texts = {"", ";", "x", " ", "r", "re", "ra", "rx", "rex", "rax", "raww", "raw;", "raw;;", "raw ", "m", "d", "f",
            "s", "sh", "mix", "mix ", "mix 1", "mix 12", "mix 123 1", "mix 1 ", "mix 1 234", "mix 1;", "fill 0 0 0",
            "fill 0 0 0 ", "fill 0 0 0 12", "fill 01", "ship", "ship ", "ship 123", "day ", "day 1 ", "day 123", "day x",
            "recall", "recall 12", "day;day;da", "day;day;dax", "day 0;ship 99;?", "day" + ";day".repeat(14) + ";",
            "x" + "a".repeat(59), "day" + ";day".repeat(13) + ";dayx", "day" + ";day".repeat(13) + ";da"};
        int[] positions = {0, 0, 0, 0, 1, 2, 2, 1, 2, 2, 3, 4, 4, 3, 1, 1, 1,
            1, 2, 3, 4, 5, 6, 6, 6, 8, 5, 10,
            11, 12, 6, 4, 5, 7, 4, 5, 6, 4,
            6, 8, 10, 10, 14, 60,
            0, 59, 58};
        for (int index = 0; index < texts.length; index++) {
            String text = texts[index];
            position.on(() -> Build.changed(oneLot(), x -> Check.answer(() -> Build.execute(x, text))))
                .answers(positions[index], "errorPosition of '" + text + "'", JarCannery::errorPosition);
        }
    }

    private static void undo(Sentences s) {
        s.terms("The last 8 successful modifications can be undone; undoing also restores the number that the next jar lot gets.")
            .on(() -> Build.lots(1, 2)).steps((x, check) -> {
                for (int day = 0; day < 12; day++) {
                    x.pass(1);
                }
                for (int left = 7; left >= 0; left--) {
                    check.due("undo", left, x::undo);
                }
                check.refused("a ninth undo", IllegalStateException.class, x::undo);
                check.due("the first four days stay", 4, x::dayCount);
            })
            .steps((x, check) -> {
                x.fill(0, 0, 0, 3);
                Build.execute(x, "fill 0 0 0 4;fill 0 0 0 5;ship 4");
                check.due("the number goes on", 5, () -> x.fill(0, 0, 0, 6));
                x.undo();
                check.due("undone, it comes again", 5, () -> x.fill(0, 0, 0, 6));
                x.undo();
                x.undo();
                check.due("undone with the text", 3, () -> x.fill(0, 0, 0, 6));
                x.undo();
                x.undo();
                check.due("and the one before it", 2, () -> x.fill(0, 0, 0, 6));
                x.ship(2);
                x.undo();
                check.due("an undone ship gives none back", 3, () -> x.fill(0, 0, 0, 6));
            });
    }

    /** Makes the call on a new cannery of two lots, and undoes what is undone by one undo. */
    private static void modified(Sentence sentence, String told, boolean counts, Consumer<JarCannery> call) {
        sentence.on(() -> Build.lots(1, 2)).steps((x, check) -> {
            x.save();
            Build.type(x, "hh");
            x.pass(2);
            String sight = Build.sight(x);
            call.accept(x);
            x.undo();
            check.due(told + ", then undo", counts, () -> sight.equals(Build.sight(x)));
            check.due(told + ", dayCount", counts ? 2 : 0, x::dayCount);
        });
    }

    private static void modifications(Sentences s) {
        Sentence some = s.terms("The modifications are the successful calls of addRaw, mix, addLabel, fill, ship, pass, recall"
                + " and execute.");
        modified(some, "mix", true, x -> x.mix(2, 2));
        modified(some, "addLabel", true, JarCannery::addLabel);
        modified(some, "fill", true, x -> x.fill(0, 0, 0, 3));
        modified(some, "ship", true, x -> x.ship(0));
        modified(some, "pass", true, x -> x.pass(3));
        modified(some, "recall", true, x -> x.recall(0));
        modified(some, "recall of none", true, x -> x.recall(5));
        modified(some, "execute", true, x -> Build.execute(x, "day"));
        modified(some, "execute of many", true, x -> Build.execute(x, "day;ship 0;recall 0;mix 2 2"));
        modified(some, "a refused addRaw", false, x -> Check.answer(x::addRaw));
        modified(some, "a refused mix", false, x -> Check.answer(() -> x.mix(64, 2)));
        modified(some, "a refused addLabel", false, x -> Check.answer(() -> Build.label(x, "abba")));
        modified(some, "a refused fill", false, x -> Check.answer(() -> x.fill(0, 0, 0, 0)));
        modified(some, "a refused ship", false, x -> Check.answer(() -> x.ship(2)));
        modified(some, "a refused pass", false, x -> Check.answer(() -> x.pass(31)));
        modified(some, "a refused recall", false, x -> Check.answer(() -> x.recall(6)));
        modified(some, "a malformed text", false, x -> Check.answer(() -> Build.execute(x, "day;")));
        modified(some, "a failing text", false, x -> Check.answer(() -> Build.execute(x, "day;day 0")));
        modified(some, "type", false, x -> x.type('a'));
        modified(some, "save", false, JarCannery::save);
        modified(some, "scan", false, JarCannery::scan);
        modified(some, "writeLot", false, x -> x.writeLot(0));
        modified(some, "writeRaws", false, JarCannery::writeRaws);
        some.on(() -> Build.raws(2)).steps((x, check) -> {
            check.due("addRaw, then undo", 1, x::undo);
            check.due("addRaw, rawCount", 1, x::rawCount);
        });
        Sentence clearing = s.terms("Clearing the text buffer is not a modification.");
        modified(clearing, "clearText", false, JarCannery::clearText);
        clearing.on(() -> Build.typed(new JarCannery(), "abc")).steps((x, check) -> {
            x.clearText();
            check.refused("undo", IllegalStateException.class, x::undo);
            check.due("the buffer", 0, x::clearText);
        });
    }

    private static void notOfTheState(Sentences s) {
        s.terms("The text buffer, the error position, the index of the failed command and the line are not part of the state"
                + " that is undone, saved or restored.")
            .on(() -> Build.lots(4)).steps((x, check) -> {
                x.writeLot(0);
                Check.answer(() -> Build.execute(x, "x"));
                Check.answer(() -> Build.execute(x, "day 0"));
                x.save();
                x.pass(1);
                x.writeRaws();
                Check.answer(() -> Build.execute(x, "rax"));
                Check.answer(() -> Build.execute(x, "day;ship 9"));
                Build.type(x, "ab");
                x.undo();
                look(check, x, "undo");
                Build.type(x, "ab");
                x.restore();
                look(check, x, "restore");
                Build.type(x, "ab");
                x.save();
                look(check, x, "save");
            })
            .steps((x, check) -> {
                x.save();
                x.writeLot(0);
                x.restore();
                check.due("the line of a new object does not come back", '0', () -> x.lineAt(0));
                check.refused("no malformed text", NoSuchElementException.class, x::errorPosition);
                check.refused("no failed command", NoSuchElementException.class, x::failedCommand);
            });
    }

    private static void look(Check check, JarCannery x, String told) {
        check.due("errorPosition after " + told, 2, x::errorPosition);
        check.due("failedCommand after " + told, 1, x::failedCommand);
        check.due("the line after " + told, "*.....", () -> Build.line(x, 6));
        check.due("the buffer after " + told, 2, () -> x.distanceTo(0));
        check.due("its length after " + told, 2, x::clearText);
    }

    private static void firstDocumented(Sentences s) {
        String argument = "throws IllegalArgumentException";
        String index = "throws IndexOutOfBoundsException";
        String state = "throws IllegalStateException";
        s.terms("If several exceptions apply, the one that is documented first is thrown.")
            .on(() -> Build.changed(Build.batches(1, 1, 1, 1, 1, 1, 1, 1, 1, 1, 1, 1), x -> x.recall(5)))
            .answers(argument, "mix: the set, and full", x -> x.mix(0, 1))
            .answers(argument, "mix: the strength, full and faulty", x -> x.mix(32, 21))
            .answers(state, "mix: full and faulty", x -> x.mix(32, 1))
            .on(() -> Build.changed(Build.batches(1, 1), x -> x.recall(5)))
            .answers(argument, "mix: the strength and faulty", x -> x.mix(32, 0))
            .answers(argument, "mix: one not there and one faulty", x -> x.mix(96, 1))
            .on(() -> Build.typed(Build.labels(8), "abi")).answers(argument, "addLabel: a letter, and full", JarCannery::addLabel)
            .on(() -> Build.typed(new JarCannery(), "")).answers(argument, "scan: no text, no label", JarCannery::scan)
            .answers(index, "distanceTo: no text, no label", x -> x.distanceTo(0))
            .answers(index, "distanceByLetters: no text, no label", x -> x.distanceByLetters(0))
            .on(() -> Build.changed(Build.batches(1, 20, 2, 20), x -> {
                for (int lot = 0; lot < 8; lot++) {
                    x.fill(0, 0, 0, 1);
                }
                x.recall(1);
            }))
            .answers(index, "fill: all of it", x -> x.fill(2, 1, 0, 0))
            .answers(index, "fill: the second batch and the jars", x -> x.fill(1, 2, 0, 10))
            .answers(index, "fill: the label, full and faulty", x -> x.fill(1, 1, 1, 1))
            .answers(argument, "fill: the jars, full and faulty", x -> x.fill(1, 0, 0, 0))
            .answers(state, "fill: full and faulty", x -> x.fill(0, 1, 0, 1))
            .on(() -> Build.changed(Build.batches(1, 20), x -> x.recall(0)))
            .answers(argument, "fill: the jars and faulty", x -> x.fill(0, 0, 0, 10))
            .answers("throws NoSuchElementException", "lotContains: neither", x -> x.lotContains(0, 6))
            .on(() -> Build.typed(new JarCannery(), "a".repeat(60)))
            .answers(argument, "type: the character, and full", x -> x.type((char) 127))
            .on(() -> Build.typed(new JarCannery(), "ship 0;x"))
            .answers(argument, "execute: malformed behind a failing one", JarCannery::execute);
    }

    private static String all(JarCannery x) {
        StringBuilder all = new StringBuilder(Build.sight(x));
        String character = Check.answer(() -> x.lineAt(0));
        for (int index = 1; character.length() == 1; index++) {
            int next = index;
            all.append(character);
            character = Check.answer(() -> x.lineAt(next));
        }
        return all.toString();
    }

    private static String undone(JarCannery x) {
        StringBuilder sights = new StringBuilder(Check.answer(() -> x.fill(0, 0, 0, 1)));
        for (int step = 0; step < 10; step++) {
            sights.append(' ').append(Check.answer(x::undo)).append(' ').append(Build.sight(x));
        }
        return sights.append(' ').append(Check.answer(x::restore)).append(Build.sight(x)).toString();
    }

    /** The length of the buffer, and its letters as a label, or the place where it is no command. */
    private static String buffer(JarCannery x, boolean asLabel) {
        String length = Check.answer(() -> x.type('a'));
        String answer = Check.answer(asLabel ? x::addLabel : x::execute);
        return length + ' ' + answer + ' ' + Build.sight(x) + (asLabel ? "" : ' ' + Check.answer(x::errorPosition)
                + ' ' + Check.answer(x::failedCommand));
    }

    /** Every call that any sentence refuses is made on one of two equal canneries; both have to answer the same afterwards. */
    private static void unchanged(Sentences s) {
        Sentence same = s.terms("A method that throws an exception leaves the state unchanged,"
                + " except that execute and addLabel empty the text buffer.");
        for (Sentence.Refused refused : s.allRefused()) {
            for (boolean asLabel : new boolean[] {true, false}) {
                same.on(refused.maker()).steps((called, check) -> compare(check, called, refused, asLabel));
            }
        }
    }

    private static void compare(Check check, JarCannery called, Sentence.Refused refused, boolean asLabel) {
        JarCannery left = refused.maker().get();
        Check.answer(() -> refused.call().on(called));
        boolean execute = refused.told().startsWith("execute");
        if (execute || refused.told().startsWith("addLabel")) {
            left.clearText();
        }
        check.due("all after " + refused.told(), all(left), () -> all(called));
        // A refused execute leaves its error position or its failed command, which are told with the buffer.
        if (!execute) {
            check.due("the buffer after " + refused.told(), buffer(left, asLabel), () -> buffer(called, asLabel));
        }
        check.due("undo after " + refused.told(), undone(left), () -> undone(called));
    }
}
