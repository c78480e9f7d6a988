/**
 * Each sentence of the document under 'What it is', 'Description' and the promises, quoted, with runs
 * of calls that are its own test; a sentence that no test quotes makes this test fail.
 */
public final class SentencesTest {

    public static void main(String[] args) throws Exception {
        Due due = new Due("SentencesTest");
        Sentences sentences = new Sentences(due);
        new ProcessSentences(sentences).all();
        new GameSentences(sentences).all();
        new PromiseSentences(sentences).all();
        new ComparingSentences(sentences).all();
        sentences.end();
        due.end();
    }
}
