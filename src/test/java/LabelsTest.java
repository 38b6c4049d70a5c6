/** Promises 9 to 15. */
public final class LabelsTest {
    private final Check check = new Check();

    public static void main(String[] args) {
        LabelsTest test = new LabelsTest();
        test.promise9And10AddLabel();
        test.promise9Refusals();
        test.promise11And12Letters();
        test.promise13Scan();
        test.promise13Nearest();
        test.promise14And15Distances();
        test.promise15ByItself();
        test.promise14And15Order();
        test.check.finish();
    }

    private void promise9And10AddLabel() {
        JarCannery x = new JarCannery();
        String[] labels = {"a", "h", "abcdef", "ab", "ba", "hhhhhh", "abc", "aa"};
        for (int label = 0; label < labels.length; label++) {
            check.due("10 labelCount", label, x::labelCount);
            Build.type(x, labels[label]);
            check.due("9 addLabel " + labels[label], label, x::addLabel);
            check.due("9 the buffer afterwards", 0, x::clearText);
        }
        Build.type(x, "cc");
        check.refused("9 a ninth", IllegalStateException.class, x::addLabel);
        check.due("9 the buffer after the ninth", 0, x::clearText);
        Build.type(x, "cc9");
        check.refused("9 a ninth that is malformed", IllegalArgumentException.class, x::addLabel);
        check.due("10 labelCount at the end", 8, x::labelCount);
    }

    private void promise9Refusals() {
        JarCannery x = new JarCannery();
        Build.label(x, "abc");
        for (String bad : new String[] {"", "i", "A", "`", "abi", "iab", "aib", "a b", " a", "abcdefg", "1", "abcdefgi"}) {
            Build.type(x, bad);
            check.refused("9 addLabel '" + bad + "'", IllegalArgumentException.class, x::addLabel);
            check.due("9 the buffer after '" + bad + "'", 0, x::clearText);
        }
        Build.type(x, "abc");
        check.refused("9 the same label", IllegalStateException.class, x::addLabel);
        check.due("9 the buffer after the same label", 0, x::clearText);
        Build.type(x, "abcd");
        check.due("9 a longer one", 1, x::addLabel);
        Build.type(x, "ab");
        check.due("9 a shorter one", 2, x::addLabel);
        Build.type(x, "abd");
        check.due("9 one with another last letter", 3, x::addLabel);
        Build.type(x, "dbc");
        check.due("9 one with another first letter", 4, x::addLabel);
        check.due("10 labelCount", 5, x::labelCount);
        Build.label(x, "abcdef");
        Build.label(x, "gh");
        Build.type(x, "abcdef");
        check.refused("9 the same six letters, with a label behind them", IllegalStateException.class, x::addLabel);
        check.due("10 labelCount after that", 7, x::labelCount);
    }

    private void promise11And12Letters() {
        JarCannery x = new JarCannery();
        Build.label(x, "abcdef");
        Build.label(x, "hg");
        check.due("11 labelLength(0)", 6, () -> x.labelLength(0));
        check.due("11 labelLength(1)", 2, () -> x.labelLength(1));
        check.due("12 labelLetter(0, 0)", 'a', () -> x.labelLetter(0, 0));
        check.due("12 labelLetter(0, 5)", 'f', () -> x.labelLetter(0, 5));
        check.due("12 labelLetter(1, 0)", 'h', () -> x.labelLetter(1, 0));
        check.due("12 labelLetter(1, 1)", 'g', () -> x.labelLetter(1, 1));
        for (int bad : new int[] {-1, 2, 8, Integer.MAX_VALUE, Integer.MIN_VALUE}) {
            check.refused("11 label " + bad, IndexOutOfBoundsException.class, () -> x.labelLength(bad));
            check.refused("12 label " + bad, IndexOutOfBoundsException.class, () -> x.labelLetter(bad, 0));
            check.refused("12 letter " + bad, IndexOutOfBoundsException.class, () -> x.labelLetter(1, bad));
        }
        check.refused("12 letter 6", IndexOutOfBoundsException.class, () -> x.labelLetter(0, 6));
    }

    private void promise13Scan() {
        JarCannery x = new JarCannery();
        check.refused("13 scan of nothing", IllegalArgumentException.class, x::scan);
        Build.type(x, "abcd");
        check.refused("13 scan without labels", java.util.NoSuchElementException.class, x::scan);
        check.due("13 the text is kept", 4, x::clearText);
        Build.label(x, "hhhh");
        Build.label(x, "abcc");
        Build.label(x, "abdd");
        Build.type(x, "abcd");
        check.due("13 the lowest of two as near", 1, x::scan);
        check.due("13 the same again", 1, x::scan);
        check.due("13 the text is kept", 4, x::clearText);
        Build.type(x, "abdd");
        check.due("13 the last", 2, x::scan);
        x.clearText();
        Build.type(x, "abcdefghabcd");
        check.due("13 twelve letters", 1, x::scan);
        x.type('a');
        check.refused("13 thirteen letters", IllegalArgumentException.class, x::scan);
        for (String bad : new String[] {"i", "abi", "`", "a b", "B"}) {
            x.clearText();
            Build.type(x, bad);
            check.refused("13 scan of " + bad, IllegalArgumentException.class, x::scan);
        }
    }

    private void scanned(String text, int want, String... labels) {
        JarCannery x = new JarCannery();
        for (String label : labels) {
            Build.label(x, label);
        }
        Build.type(x, text);
        check.due("13 scan of " + text, want, x::scan);
    }

    private void promise13Nearest() {
        scanned("a", 0, "hhhhhh");
        scanned("a", 0, "hhhhhh", "gggggg");
        scanned("a", 1, "hhhhhh", "ggggg");
        scanned("abc", 0, "abc", "abd", "ab");
        scanned("abc", 2, "h", "hh", "abcc", "ab", "a");
        scanned("hgh", 7, "a", "b", "c", "d", "e", "f", "ag", "gh");
    }

    /** Each of the two ways is asked first once, so that none lives on what the other left behind. */
    private void promise15ByItself() {
        JarCannery x = new JarCannery();
        Build.label(x, "abc");
        Build.label(x, "hh");
        Build.type(x, "abch");
        check.due("15 the first label", 1, () -> x.distanceByLetters(0));
        check.due("15 the second label", 3, () -> x.distanceByLetters(1));
        check.due("14 the first label", 1, () -> x.distanceTo(0));
        check.due("15 the second label again", 3, () -> x.distanceByLetters(1));
        x.clearText();
        Build.type(x, "hh");
        check.due("15 another text", 0, () -> x.distanceByLetters(1));
        check.due("14 another text", 3, () -> x.distanceTo(0));
    }

    private void distances(String text, String label, int want) {
        JarCannery x = new JarCannery();
        Build.label(x, "g");
        Build.label(x, label);
        Build.type(x, text);
        check.due("14 distanceTo " + text + " " + label, want, () -> x.distanceTo(1));
        check.due("15 distanceByLetters " + text + " " + label, want, () -> x.distanceByLetters(1));
        check.due("15 again", want, () -> x.distanceByLetters(1));
        check.due("14 again", want, () -> x.distanceTo(1));
        check.due("14 the text is kept", text.length(), x::clearText);
    }

    private void promise14And15Distances() {
        distances("a", "a", 0);
        distances("a", "b", 1);
        distances("abc", "abc", 0);
        distances("abc", "bc", 1);
        distances("bc", "abc", 1);
        distances("abc", "ab", 1);
        distances("abc", "adc", 1);
        distances("ab", "ba", 2);
        distances("abcdef", "bcdefa", 2);
        distances("abcdefghabcd", "h", 11);
        distances("abcdefghabcd", "ha", 10);
        distances("aaaaaaaaaaaa", "bbbbbb", 12);
        distances("aaaaaaaaaaaa", "aaaaaa", 6);
        distances("acbdacbd", "abab", 4);
        distances("hgfedc", "cdefgh", 6);
        distances("bacdab", "abcd", 4);
    }

    private void promise14And15Order() {
        JarCannery x = new JarCannery();
        Build.label(x, "abc");
        for (int bad : new int[] {-1, 1, 8, Integer.MAX_VALUE, Integer.MIN_VALUE}) {
            check.refused("14 label " + bad, IndexOutOfBoundsException.class, () -> x.distanceTo(bad));
            check.refused("15 label " + bad, IndexOutOfBoundsException.class, () -> x.distanceByLetters(bad));
        }
        check.refused("14 no text", IllegalArgumentException.class, () -> x.distanceTo(0));
        check.refused("15 no text", IllegalArgumentException.class, () -> x.distanceByLetters(0));
        Build.type(x, "abcdefghabcd");
        check.due("14 twelve", 9, () -> x.distanceTo(0));
        check.due("15 twelve", 9, () -> x.distanceByLetters(0));
        Build.type(x, "a");
        check.refused("14 thirteen", IllegalArgumentException.class, () -> x.distanceTo(0));
        check.refused("15 thirteen", IllegalArgumentException.class, () -> x.distanceByLetters(0));
        x.clearText();
        Build.type(x, "abi");
        check.refused("14 an i", IllegalArgumentException.class, () -> x.distanceTo(0));
        check.refused("15 an i", IllegalArgumentException.class, () -> x.distanceByLetters(0));
        check.due("14 the text is kept", 3, x::clearText);
    }
}
