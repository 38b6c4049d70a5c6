import java.io.IOException;
import java.nio.file.Files;
import java.util.HashSet;
import java.util.Set;

/**
 * The document sentence by sentence: each that names a boundary case has a test of its own, told with its words. What
 * the document says and what is told here are compared, so that no such sentence is left out and none is made up.
 */
public final class SentencesTest {
    private int wrong = 0;

    public static void main(String[] args) throws IOException {
        Sentences sentences = new Sentences();
        BrineSentences.tell(sentences);
        LabelSentences.tell(sentences);
        JarLotSentences.tell(sentences);
        FindingSentences.tell(sentences);
        AccountSentences.tell(sentences);
        TextSentences.tell(sentences);
        UndoSentences.tell(sentences);
        TermsOfThings.tell(sentences);
        TermsOfText.tell(sentences);
        SentencesTest test = new SentencesTest();
        test.allHold(sentences);
        test.allAreTold(sentences);
        if (test.wrong > 0) {
            System.exit(1);
        }
    }

    private void amiss(String what) {
        wrong++;
        System.out.println(what);
    }

    private void allHold(Sentences sentences) {
        int asked = 0;
        for (Sentence sentence : sentences.all()) {
            asked += sentence.check.asked();
            if (!sentence.check.holds()) {
                amiss("DOES NOT HOLD: " + sentence);
            }
        }
        System.out.println(sentences.all().size() + " sentences, " + asked + " answers asked, " + wrong + " do not hold");
    }

    private void allAreTold(Sentences sentences) throws IOException {
        if (!Files.exists(Document.PLACE)) {
            System.out.println(Document.PLACE + " is not there, so its sentences are not compared");
            return;
        }
        Document document = new Document();
        Set<String> told = new HashSet<>();
        for (Sentence sentence : sentences.all()) {
            if (!told.add(sentence.toString())) {
                amiss("TOLD TWICE: " + sentence);
            }
            if (!document.says(sentence.toString())) {
                amiss("NOT IN THE DOCUMENT: " + sentence);
            }
        }
        for (String edge : document.edges()) {
            if (!told.contains(edge)) {
                amiss("HAS NO TEST: " + edge);
            }
        }
    }
}
