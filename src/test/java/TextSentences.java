import java.util.NoSuchElementException;

/** The sentences of promises 49 to 53: text and commands. */
final class TextSentences {
    private static final String FULL = TermsOfText.FULL;
    private static final String FULL_BUT_FOR_ONE = "day" + ";day".repeat(14);

    private TextSentences() {
    }

    static void tell(Sentences s) {
        type(s);
        execute(s);
        failing(s);
        executeRefusals(s);
        errorPosition(s);
        failedCommand(s);
    }

    private static JarCannery typed(int count) {
        return Build.typed(new JarCannery(), "a".repeat(count));
    }

    private static void type(Sentences s) {
        Sentence range = s.promise(49, "Throws `IllegalArgumentException` if the character is not from 32 to 126");
        for (int code : new int[] {0, 1, 9, 10, 31, 127, 128, 160, 255, 256 + 'a', 32767, 32768, 65535}) {
            range.on(() -> typed(3)).refuses("type of the character " + code, x -> x.type((char) code));
        }
        for (int code : new int[] {32, 33, 'a', 125, 126}) {
            range.on(() -> typed(3)).answers(4, "type of the character " + code, x -> x.type((char) code));
        }
        s.promise(49, "Throws `IllegalStateException` if the buffer contains 60 characters")
            .on(() -> typed(60)).refuses("type of the 61st", x -> x.type('a')).refuses("type of a blank", x -> x.type(' '))
            .on(() -> typed(59)).answers(60, "type of the 60th", x -> x.type('~'))
            .on(() -> Build.changed(typed(60), JarCannery::clearText)).answers(1, "type, cleared", x -> x.type('a'))
            .on(() -> Build.changed(typed(60), x -> Check.answer(x::execute))).answers(1, "type, executed", x -> x.type('a'))
            .on(() -> Build.changed(typed(60), x -> Check.answer(x::addLabel))).answers(1, "type, added", x -> x.type('a'));
        s.promise(50, "Empties the text buffer.")
            .answers(0, "clearText of an empty one", JarCannery::clearText)
            .on(() -> typed(1)).answers(1, "clearText of one", JarCannery::clearText)
            .on(() -> typed(60)).answers(60, "clearText of a full one", JarCannery::clearText)
            .steps((x, check) -> {
                x.clearText();
                check.due("clearText again", 0, x::clearText);
                check.due("type from the start", 1, () -> x.type('h'));
                check.due("what was typed is all there is", 0, x::addLabel);
                check.due("its length", 1, () -> x.labelLength(0));
            });
    }

    private static void execute(Sentences s) {
        Sentence emptied = s.promise(51, "Executes the text in the buffer, which is empty afterwards.");
        String[] texts = {"raw", "day;day", FULL, "", "x", "raw;", FULL_BUT_FOR_ONE + ";", "ship 0", "raw;ship 0"};
        for (String text : texts) {
            emptied.on(() -> Build.typed(new JarCannery(), text)).steps((x, check) -> {
                Check.answer(x::execute);
                check.due("the buffer after " + text, 0, x::clearText);
                check.due("the next character", 1, () -> x.type('a'));
            });
        }
        emptied.on(() -> Build.typed(new JarCannery(), "raw")).answers(1, "execute of raw", JarCannery::execute)
            .on(() -> Build.typed(new JarCannery(), FULL)).answers(14, "execute of a full buffer", JarCannery::execute)
            .on(() -> Build.changed(new JarCannery(), x -> Build.execute(x, FULL))).answers(43, "dayCount", JarCannery::dayCount);
    }

    private static void failing(Sentences s) {
        Sentence all = s.promise(51, "The commands are executed in order, all of them or none:"
                + " if a command fails, the effects of the commands before it are taken back.");
        String[] failing = {"day 31", "day;day 31", "raw;mix 1 1;ship 9", "mix 64 5;day", "raw;raw;raw;raw", "ship 1;ship 1",
            "ship 1;recall 0;fill 0 0 0 1", "day 30;day 30;ship 1", "fill 0 0 0 3;fill 0 0 0 0", "recall 1;recall 1",
            "mix 1 1;mix 1 1;mix 1 1;mix 1 1;mix 1 1;mix 1 1"};
        for (String text : failing) {
            all.on(() -> Build.changed(Build.raws(3), x -> {
                Build.label(x, "abba");
                x.mix(1, 20);
                x.fill(0, 0, 0, 5);
                x.fill(0, 0, 0, 6);
                x.undo();
                x.fill(0, 0, 0, 4);
                x.pass(2);
            })).steps((x, check) -> {
                String sight = Build.sight(x);
                check.refused(text, IllegalStateException.class, () -> Build.execute(x, text));
                check.due("taken back, " + text, sight, () -> Build.sight(x));
                check.due("the next number after " + text, 2, () -> x.fill(0, 0, 0, 1));
                check.due("what can be undone after " + text, 7, x::undo);
            });
        }
        all.on(() -> Build.changed(new JarCannery(), x -> {
            Build.label(x, "a");
            Build.execute(x, "raw;mix 1 1;fill 0 0 0 9;day 2;ship 0;raw;recall 1");
        })).answers("2 1 1 2 9 9 0 0 . x b1/10 la", "all of them, in order", Build::sight);
        Sentence fails = s.promise(51, "A command fails if the method for it would throw an exception.");
        String[] refused = {"mix 0 5", "mix 8 5", "mix 2 5", "mix 1 0", "mix 1 21", "mix 1 99", "mix 99 1", "fill 1 0 0 1",
            "fill 0 1 0 1", "fill 0 0 1 1", "fill 0 0 0 0", "fill 9 9 9 9", "ship 1", "ship 99", "day 0", "day 00", "day 31",
            "day 99", "recall 1", "recall 3", "recall 9"};
        for (String text : refused) {
            fails.on(TextSentences::oneLot).answers("throws IllegalStateException", text, x -> Build.execute(x, text));
        }
        for (String text : new String[] {"raw", "mix 1 1", "mix 5 20", "fill 0 0 0 1", "fill 0 0 0 9", "ship 0", "ship 00",
            "day", "day 1", "day 30", "recall 0", "recall 2"}) {
            fails.on(TextSentences::oneLot).answers(1, text, x -> Build.execute(x, text));
        }
        fails.on(() -> Build.raws(6)).answers("throws IllegalStateException", "a seventh raw", x -> Build.execute(x, "raw"))
            .on(() -> Build.batches(1, 1, 1, 1, 1, 1, 1, 1, 1, 1, 1, 1))
            .answers("throws IllegalStateException", "a seventh mix", x -> Build.execute(x, "mix 1 1"))
            .on(() -> Build.lots(1, 1, 1, 1, 1, 1, 1, 1))
            .answers("throws IllegalStateException", "a ninth fill", x -> Build.execute(x, "fill 0 0 0 1"))
            .on(() -> Build.changed(Build.lots(1), x -> x.recall(0)))
            .answers("throws IllegalStateException", "a faulty fill", x -> Build.execute(x, "fill 0 0 0 1"));
    }

    /** Three raw lots, the second of them faulty; a batch of the first, and a lot of it. */
    private static JarCannery oneLot() {
        JarCannery x = Build.raws(3);
        Build.label(x, "abba");
        x.mix(1, 20);
        x.fill(0, 0, 0, 5);
        x.recall(1);
        return x;
    }

    private static void executeRefusals(Sentences s) {
        Sentence malformed = s.promise(51, "Throws `IllegalArgumentException` if the text is malformed;"
                + " its error position is stored");
        String[] texts = {"", "x", "raw;", ";raw", "raw;;raw", "RAW", "day 123", "recall 12", "mix 1",
            FULL_BUT_FOR_ONE + ";", "ship 0;x"};
        int[] positions = {0, 0, 4, 0, 4, 0, 6, 8, 5, 60, 7};
        for (int index = 0; index < texts.length; index++) {
            String text = texts[index];
            int position = positions[index];
            malformed.on(() -> Build.typed(oneLot(), text)).refuses("execute of '" + text + "'", JarCannery::execute)
                .steps((x, check) -> {
                    Check.answer(x::execute);
                    check.due("errorPosition of '" + text + "'", position, x::errorPosition);
                    check.refused("failedCommand", NoSuchElementException.class, x::failedCommand);
                });
        }
        Sentence failing = s.promise(51, "Throws `IllegalStateException` if a command fails; its index is stored");
        String[] failingTexts = {"ship 1", "day;ship 1;day", "day;day;day 0", "day 31;day 31", "fill 0 0 0 1;ship 9",
            "day;recall 0;raw;day 0"};
        int[] indexes = {0, 1, 2, 0, 1, 3};
        for (int index = 0; index < failingTexts.length; index++) {
            String text = failingTexts[index];
            int failed = indexes[index];
            failing.on(() -> Build.typed(oneLot(), text)).refuses("execute of '" + text + "'", JarCannery::execute)
                .steps((x, check) -> {
                    Check.answer(x::execute);
                    check.due("failedCommand of '" + text + "'", failed, x::failedCommand);
                    check.refused("errorPosition", NoSuchElementException.class, x::errorPosition);
                });
        }
    }

    /** What an execute answers is not asked here, only what it leaves behind. */
    private static void run(JarCannery x, String text) {
        Check.answer(() -> Build.execute(x, text));
    }

    private static void errorPosition(Sentences s) {
        s.promise(52, "Returns the error position of the last malformed text.")
            .steps((x, check) -> {
                run(x, "rax");
                check.due("the first", 2, x::errorPosition);
                run(x, "day;");
                check.due("the second", 4, x::errorPosition);
                run(x, "day");
                check.due("a good text later", 4, x::errorPosition);
                run(x, "ship 1");
                check.due("a failing text later", 4, x::errorPosition);
                run(x, "");
                check.due("an empty one", 0, x::errorPosition);
            });
        s.promise(52, "Throws `NoSuchElementException` if no text was malformed so far")
            .refuses("errorPosition of a new object", JarCannery::errorPosition)
            .on(() -> Build.changed(new JarCannery(), x -> run(x, "day")))
            .refuses("errorPosition after a good text", JarCannery::errorPosition)
            .on(() -> Build.changed(new JarCannery(), x -> run(x, "ship 0")))
            .refuses("errorPosition after a failing text", JarCannery::errorPosition)
            .on(() -> Build.changed(Build.typed(new JarCannery(), "x"), x -> Check.answer(x::addLabel)))
            .refuses("errorPosition after no label", JarCannery::errorPosition)
            .on(() -> Build.typed(new JarCannery(), "x")).refuses("errorPosition before execute", JarCannery::errorPosition)
            .on(() -> Build.changed(new JarCannery(), x -> run(x, ""))).answers(0, "errorPosition", JarCannery::errorPosition);
    }

    private static void failedCommand(Sentences s) {
        s.promise(53, "Returns the index of the command that failed in the last text that had one.")
            .steps((x, check) -> {
                run(x, "day;day;ship 0");
                check.due("the first text", 2, x::failedCommand);
                run(x, "day;ship 0;ship 0");
                check.due("the first of two in the second text", 1, x::failedCommand);
                run(x, "day");
                check.due("a good text later", 1, x::failedCommand);
                run(x, "ship 0;");
                check.due("a malformed text later", 1, x::failedCommand);
                run(x, "day 0");
                check.due("the last text", 0, x::failedCommand);
            });
        s.promise(53, "Returns the index of the command, from 0.")
            .on(() -> Build.changed(new JarCannery(), x -> run(x, "day 0"))).answers(0, "the first", JarCannery::failedCommand)
            .on(() -> Build.changed(new JarCannery(), x -> run(x, "day;day 0")))
            .answers(1, "the second", JarCannery::failedCommand)
            .on(() -> Build.changed(new JarCannery(), x -> run(x, "day;".repeat(13) + "ship 99")))
            .answers(13, "the last of a full buffer", JarCannery::failedCommand);
        s.promise(53, "Throws `NoSuchElementException` if no command failed so far")
            .refuses("failedCommand of a new object", JarCannery::failedCommand)
            .on(() -> Build.changed(new JarCannery(), x -> run(x, "day")))
            .refuses("failedCommand after a good text", JarCannery::failedCommand)
            .on(() -> Build.changed(new JarCannery(), x -> run(x, "ship 0;x")))
            .refuses("failedCommand after a malformed text", JarCannery::failedCommand)
            .on(() -> Build.changed(new JarCannery(), x -> Check.answer(() -> x.ship(0))))
            .refuses("failedCommand after a refused ship", JarCannery::failedCommand);
    }
}
