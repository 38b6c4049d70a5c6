import java.util.function.Consumer;

/** Canneries that the tests begin with. */
final class Build {
    private Build() {
    }

    static void type(JarCannery cannery, String text) {
        for (int index = 0; index < text.length(); index++) {
            cannery.type(text.charAt(index));
        }
    }

    /** The same cannery, with the text typed. */
    static JarCannery typed(JarCannery cannery, String text) {
        type(cannery, text);
        return cannery;
    }

    static JarCannery labels(String... labels) {
        JarCannery cannery = new JarCannery();
        for (String letters : labels) {
            label(cannery, letters);
        }
        return cannery;
    }

    /** As many labels as asked for, of one letter each. */
    static JarCannery labels(int count) {
        JarCannery cannery = new JarCannery();
        for (int label = 0; label < count; label++) {
            label(cannery, String.valueOf((char) ('a' + label)));
        }
        return cannery;
    }

    static int label(JarCannery cannery, String letters) {
        cannery.clearText();
        type(cannery, letters);
        return cannery.addLabel();
    }

    static int execute(JarCannery cannery, String text) {
        cannery.clearText();
        type(cannery, text);
        return cannery.execute();
    }

    static JarCannery raws(int count) {
        JarCannery cannery = new JarCannery();
        for (int raw = 0; raw < count; raw++) {
            cannery.addRaw();
        }
        return cannery;
    }

    /** Six raw lots, the label "abba", and a batch of each pair of set and strength. */
    static JarCannery batches(int... setsAndStrengths) {
        JarCannery cannery = raws(6);
        label(cannery, "abba");
        for (int index = 0; index + 1 < setsAndStrengths.length; index += 2) {
            cannery.mix(setsAndStrengths[index], setsAndStrengths[index + 1]);
        }
        return cannery;
    }

    /** One lot of batch 0 for each number of jars; the batch has raw lot 0 and strength 20. */
    static JarCannery lots(int... jars) {
        JarCannery cannery = batches(1, 20);
        for (int number : jars) {
            cannery.fill(0, 0, 0, number);
        }
        return cannery;
    }

    static String line(JarCannery cannery, int length) {
        StringBuilder line = new StringBuilder();
        for (int index = 0; index < length; index++) {
            line.append(cannery.lineAt(index));
        }
        return line.toString();
    }

    /** The same cannery, after the change. */
    static JarCannery changed(JarCannery cannery, Consumer<JarCannery> change) {
        change.accept(cannery);
        return cannery;
    }

    /** The counts, the lots and the raw lots in one text, to tell whether a call changed anything. */
    static String sight(JarCannery cannery) {
        StringBuilder sight = new StringBuilder();
        sight.append(cannery.rawCount()).append(' ').append(cannery.batchCount()).append(' ');
        sight.append(cannery.labelCount()).append(' ').append(cannery.dayCount()).append(' ');
        sight.append(cannery.filled()).append(' ').append(cannery.shipped()).append(' ');
        sight.append(cannery.recalled()).append(' ').append(cannery.spoiled());
        for (int raw = 0; raw < cannery.rawCount(); raw++) {
            sight.append(cannery.isFaulty(raw) ? " x" : " .");
        }
        for (int batch = 0; batch < cannery.batchCount(); batch++) {
            sight.append(" b").append(cannery.strengthOf(batch)).append('/');
            for (int raw = 0; raw < cannery.rawCount(); raw++) {
                sight.append(cannery.batchContains(batch, raw) ? '1' : '0');
            }
        }
        for (int label = 0; label < cannery.labelCount(); label++) {
            sight.append(" l");
            for (int index = 0; index < cannery.labelLength(label); index++) {
                sight.append(cannery.labelLetter(label, index));
            }
        }
        for (int position = 0; position < cannery.lotCount(); position++) {
            int lot = cannery.lotAt(position);
            sight.append(" #").append(lot).append(':').append(cannery.jarsOf(lot)).append(',');
            sight.append(cannery.labelOf(lot)).append(',').append(cannery.strengthOfLot(lot)).append(',');
            sight.append(cannery.pressureOf(lot));
        }
        return sight.toString();
    }
}
