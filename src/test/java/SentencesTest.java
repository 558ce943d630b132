import java.util.List;

/**
 * Each sentence of the document has a test of its own; one that has none is a fault too, so that a document that
 * is told anew is not passed by.
 */
public final class SentencesTest {
    public static void main(String[] args) throws Exception {
        SentenceTests.Tally tally = new SentenceTests.Tally(Document.read());
        List<SentenceTests> all = List.of(new LifeSentences(tally), new RefusalSentences(tally),
                new TextSentences(tally), new FitSentences(tally), new ToldSentences(tally), new SheetSentences(tally));
        for (SentenceTests tests : all) {
            tests.run();
        }
        for (String unborne : tally.document.unborne()) {
            tally.wrong++;
            System.out.println("no test bears " + unborne);
        }
        System.out.println("SentencesTest: " + tally.sentences + " sentences, " + tally.asked + " answers, "
                + tally.wrong + " wrong");
        if (tally.wrong != 0) {
            System.exit(1);
        }
    }
}
