/** The sentences of promises 9 to 15. */
final class LabelSentences {
    private static final int LOW = Integer.MIN_VALUE;
    private static final int HIGH = Integer.MAX_VALUE;
    private static final String[] NO_LETTERS = {"", "i", "`", "A", "H", "1", " ", "~", "abi", "iab", "aib", "a b", " a", "a "};
    private static final String LONG = "a".repeat(60);

    private LabelSentences() {
    }

    static void tell(Sentences s) {
        emptied(s);
        addLabel(s);
        lettersOfLabels(s);
        scan(s);
        distances(s);
        scannedTexts(s, 14, (x, label) -> x.distanceTo(label));
        scannedTexts(s, 15, (x, label) -> x.distanceByLetters(label));
    }

    private static void emptied(Sentences s) {
        s.promise(9, "The buffer is empty afterwards, also if an exception is thrown.")
            .steps((x, check) -> {
                for (String text : new String[] {"abc", "abc", "", "abi", "abcdefg", LONG}) {
                    Build.type(x, text);
                    Check.answer(x::addLabel);
                    check.due("the buffer after " + text, 0, x::clearText);
                    Build.type(x, text);
                    Check.answer(x::addLabel);
                    check.due("and what is typed next", 1, () -> x.type('q'));
                    x.clearText();
                }
            })
            .on(() -> Build.typed(Build.labels(8), "hg"))
            .steps((x, check) -> {
                check.refused("a ninth", IllegalStateException.class, x::addLabel);
                check.due("the buffer after a ninth", 0, x::clearText);
            });
    }

    private static void addLabel(Sentences s) {
        Sentence letters = s.promise(9,
                "Throws `IllegalArgumentException` if the text does not have 1 to 6 letters from a to h and nothing else");
        for (String text : NO_LETTERS) {
            letters.on(() -> Build.typed(Build.labels("abc"), text)).refuses("addLabel of '" + text + "'", JarCannery::addLabel);
        }
        for (String text : new String[] {"abcdefg", "hhhhhhh", "abcdefi", "abcdefgh", "aaaaaaaaaaaa", LONG}) {
            letters.on(() -> Build.typed(Build.labels("abc"), text)).refuses("addLabel of " + text, JarCannery::addLabel);
        }
        for (String text : new String[] {"a", "h", "abcdef", "hhhhhh"}) {
            letters.on(() -> Build.typed(Build.labels("abc"), text)).answers(1, "addLabel of " + text, JarCannery::addLabel);
        }
        Sentence states = s.promise(9, "Throws `IllegalStateException` if there are 8 labels, or there is the same label")
            .on(() -> Build.typed(Build.labels(8), "ab")).refuses("addLabel of a ninth", JarCannery::addLabel)
            .on(() -> Build.typed(Build.labels(8), "h")).refuses("addLabel of one of eight", JarCannery::addLabel)
            .on(() -> Build.typed(Build.labels(7), "ab")).answers(7, "addLabel of the eighth", JarCannery::addLabel)
            .on(() -> Build.typed(Build.changed(Build.labels(8), JarCannery::undo), "h"))
            .answers(7, "addLabel of an undone one", JarCannery::addLabel);
        for (String text : new String[] {"abc", "hh", "abcdef"}) {
            states.on(() -> Build.typed(Build.labels("abc", "abcdef", "hh"), text))
                .refuses("addLabel of the same, " + text, JarCannery::addLabel);
        }
        for (String text : new String[] {"ab", "abcd", "abcdeg", "hbcdef", "hhh", "h", "cba"}) {
            states.on(() -> Build.typed(Build.labels("abc", "abcdef", "hh"), text))
                .answers(3, "addLabel of another, " + text, JarCannery::addLabel);
        }
    }

    private static void lettersOfLabels(Sentences s) {
        s.promise(11, "Throws `IndexOutOfBoundsException` if there is no such label")
            .refusesEach(new int[] {0, -1}, "labelLength without any", JarCannery::labelLength)
            .on(() -> Build.labels("abcdef", "g"))
            .refusesEach(new int[] {-1, 2, 7, 8, LOW, HIGH}, "labelLength", JarCannery::labelLength)
            .answers(6, "labelLength of the first", x -> x.labelLength(0))
            .answers(1, "labelLength of the last", x -> x.labelLength(1));
        s.promise(12, "`index`: index of the letter, from 0")
            .on(() -> Build.labels("abcdef", "g"))
            .answers('a', "labelLetter of the first", x -> x.labelLetter(0, 0))
            .answers('f', "labelLetter of the last", x -> x.labelLetter(0, 5))
            .answers('g', "labelLetter of the only one", x -> x.labelLetter(1, 0));
        s.promise(12, "Throws `IndexOutOfBoundsException` if there is no such label or letter")
            .refusesEach(new int[] {0, -1}, "labelLetter without any", (x, label) -> x.labelLetter(label, 0))
            .on(() -> Build.labels("abcdef", "gh", "hhhhhh"))
            .refusesEach(new int[] {-1, 3, 7, 8, LOW, HIGH}, "labelLetter", (x, label) -> x.labelLetter(label, 0))
            .refusesEach(new int[] {-1, -6, 6, 7, 12, LOW, HIGH}, "labelLetter of the first", (x, at) -> x.labelLetter(0, at))
            .refusesEach(new int[] {-1, -6, 2, 5, 6, LOW, HIGH}, "labelLetter of the second", (x, at) -> x.labelLetter(1, at))
            .answers('h', "labelLetter of the last one's last", x -> x.labelLetter(2, 5));
    }

    private static Sentence scanned(Sentence sentence, int want, String text, String... labels) {
        return sentence.on(() -> Build.typed(Build.labels(labels), text)).steps((x, check) -> {
            check.due("scan of " + text, want, x::scan);
            check.due("scan again of " + text, want, x::scan);
            check.due("the buffer after the scan of " + text, text.length(), x::clearText);
        });
    }

    private static void scan(Sentences s) {
        Sentence nearest = s.promise(13, "Returns the label that is nearest to the text in the buffer, which is kept;"
                + " of several, the one with the lowest number.");
        scanned(nearest, 0, "a", "hhhhhh");
        scanned(nearest, 1, "abc", "h", "abd", "adc", "dbc");
        scanned(nearest, 2, "abc", "h", "abd", "abc", "dbc");
        scanned(nearest, 7, "ab", "cc", "dd", "ee", "ff", "gg", "hh", "ce", "ac");
        scanned(nearest, 0, "hh", "a", "b", "c", "d", "e", "f", "g", "aa");
        scanned(nearest, 1, "abcdefabcdef", "a", "abcdef", "fedcba");
        Sentence letters = s.promise(13, "Throws `IllegalArgumentException` if the text in the buffer does not have"
                + " 1 to 12 letters from a to h and nothing else");
        refuseTexts(letters, "scan", JarCannery::scan);
        letters.on(() -> Build.typed(Build.labels("abc"), "h")).answers(0, "scan of one letter", JarCannery::scan)
            .on(() -> Build.typed(Build.labels("abc"), "abcdefghabcd")).answers(0, "scan of twelve", JarCannery::scan);
        s.promise(13, "Throws `NoSuchElementException` if there are no labels")
            .on(() -> Build.typed(new JarCannery(), "abcd")).refuses("scan", JarCannery::scan)
            .on(() -> Build.typed(Build.changed(Build.labels("abc"), JarCannery::undo), "abc"))
            .refuses("scan, the only one is undone", JarCannery::scan)
            .on(() -> Build.typed(Build.labels("hhhhhh"), "abcd")).answers(0, "scan with one", JarCannery::scan);
    }

    private static void refuseTexts(Sentence sentence, String told, Sentence.Call call) {
        for (String text : NO_LETTERS) {
            sentence.on(() -> Build.typed(Build.labels("abc"), text)).refuses(told + " of '" + text + "'", call);
        }
        for (String text : new String[] {"abcdefghabcda", "abcdefghabci", "iaaaaaaaaaaa", LONG}) {
            sentence.on(() -> Build.typed(Build.labels("abc"), text)).refuses(told + " of " + text, call);
        }
    }

    private static void distances(Sentences s) {
        Sentence byTable = s.promise(14,
                "Returns the distance of a label and the text in the buffer, which is kept, by filling a table.");
        Sentence byLetters = s.promise(15,
                "Returns the same as distanceTo, by going on from letter to letter and remembering what was found.");
        String[][] pairs = {{"a", "a", "0"}, {"a", "h", "1"}, {"abcdefghabcd", "h", "11"}, {"aaaaaaaaaaaa", "b", "12"},
            {"aaaaaaaaaaaa", "bbbbbb", "12"}, {"aaaaaaaaaaaa", "aaaaaa", "6"}, {"h", "abcdef", "6"}, {"ab", "ba", "2"},
            {"abcdef", "bcdefa", "2"}, {"bcdef", "abcdef", "1"}, {"abcdef", "abcdef", "0"}, {"abc", "adc", "1"},
            {"aaaaaaaaaaah", "h", "11"}, {"haaaaaaaaaaa", "h", "11"}, {"aaaaaabcdefg", "bcdefg", "6"}};
        for (String[] pair : pairs) {
            distance(byTable, pair, x -> x.distanceTo(1));
            distance(byLetters, pair, x -> x.distanceByLetters(1));
        }
    }

    private static void distance(Sentence sentence, String[] pair, Sentence.Call call) {
        sentence.on(() -> Build.typed(Build.labels("gg", pair[1], "c"), pair[0])).steps((x, check) -> {
            String told = "distance of " + pair[0] + " and " + pair[1];
            check.due(told, pair[2], () -> call.on(x));
            check.due(told + " again", pair[2], () -> call.on(x));
            check.due("the buffer after the " + told, pair[0].length(), x::clearText);
        });
    }

    private static void scannedTexts(Sentences s, int promise, Sentence.NumberedCall call) {
        s.promise(promise, "Throws `IndexOutOfBoundsException` if there is no such label")
            .on(() -> Build.typed(new JarCannery(), "abc"))
            .refusesEach(new int[] {0, -1}, "distance without any", call)
            .on(() -> Build.typed(Build.labels("abc", "hh"), "abc"))
            .refusesEach(new int[] {-1, 2, 7, 8, LOW, HIGH}, "distance", call)
            .answers(0, "distance of the first", x -> call.on(x, 0))
            .answers(3, "distance of the last", x -> call.on(x, 1));
        Sentence letters = s.promise(promise, "Throws `IllegalArgumentException` if the text in the buffer does not have"
                + " 1 to 12 letters from a to h and nothing else");
        refuseTexts(letters, "distance", x -> call.on(x, 0));
        letters.on(() -> Build.typed(Build.labels("abc"), "c")).answers(2, "distance of one letter", x -> call.on(x, 0))
            .on(() -> Build.typed(Build.labels("abc"), "abcdefghabcd")).answers(9, "distance of twelve", x -> call.on(x, 0));
    }
}
