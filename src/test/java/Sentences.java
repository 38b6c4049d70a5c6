import java.util.ArrayList;
import java.util.List;

/** The sentences of the document that have a test of their own. */
final class Sentences {
    private final List<Sentence> told = new ArrayList<>();

    Sentence of(String section, String words) {
        Sentence sentence = new Sentence(section, words);
        told.add(sentence);
        return sentence;
    }

    Sentence terms(String words) {
        return of("Terms", words);
    }

    Sentence promise(int number, String words) {
        return of("Promise " + number, words);
    }

    List<Sentence> all() {
        return told;
    }

    List<Sentence.Refused> allRefused() {
        List<Sentence.Refused> refused = new ArrayList<>();
        for (Sentence sentence : told) {
            refused.addAll(sentence.refused);
        }
        return refused;
    }
}
