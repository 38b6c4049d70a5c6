import java.util.ArrayList;
import java.util.List;
import java.util.function.BiConsumer;
import java.util.function.Supplier;

/** The test of one sentence of the document: calls, each on a cannery that is made for it alone. */
final class Sentence {
    interface Call {
        Object on(JarCannery cannery);
    }

    interface NumberedCall {
        Object on(JarCannery cannery, int number);
    }

    /** A call that the sentence refuses, kept for the sentence that nothing is changed by it. */
    record Refused(String told, Supplier<JarCannery> maker, Call call) { }

    final String section;
    final String words;
    final Check check = new Check();
    final List<Refused> refused = new ArrayList<>();
    private Supplier<JarCannery> maker = JarCannery::new;

    Sentence(String section, String words) {
        this.section = section;
        this.words = words;
    }

    /** From here on the calls are made on such canneries. */
    Sentence on(Supplier<JarCannery> canneries) {
        maker = canneries;
        return this;
    }

    Sentence answers(Object want, String told, Call call) {
        return steps((cannery, asked) -> asked.due(section + ": " + told, want, () -> call.on(cannery)));
    }

    /** The call throws what the sentence names. */
    Sentence refuses(String told, Call call) {
        refused.add(new Refused(told, maker, call));
        return answers("throws " + thrownName(), told, call);
    }

    Sentence refusesEach(int[] numbers, String told, NumberedCall call) {
        for (int number : numbers) {
            refuses(told + " of " + number, x -> call.on(x, number));
        }
        return this;
    }

    /** Several questions to one cannery. What is thrown on the way to them is an answer that is not due. */
    Sentence steps(BiConsumer<JarCannery, Check> questions) {
        try {
            questions.accept(maker.get(), check);
        } catch (RuntimeException e) {
            check.amiss(section + ": between the questions, " + e);
        }
        return this;
    }

    private String thrownName() {
        int from = words.indexOf('`') + 1;
        return words.substring(from, words.indexOf('`', from));
    }

    @Override
    public String toString() {
        return section + " | " + words;
    }
}
