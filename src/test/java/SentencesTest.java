import java.io.IOException;

/**
 * The document sentence by sentence: each of its words, from the first one to promise 23, is quoted
 * by a test of its own, which would fail if it were broken; FaceTest has the public face.
 */
public final class SentencesTest {
    public static void main(String[] args) throws IOException {
        all();
        Check.end();
    }

    /** Without an end to the program, for src/test/mutants. */
    static void all() throws IOException {
        Doc.read();
        OpeningSentences.all();
        GrammarSentences.all();
        TextSentences.all();
        ResultSentences.all();
        RuleSentences.all();
        ParseSentences.all();
        MemorySentences.all();
        RefusalSentences.all();
        Doc.everyWordIsQuoted();
    }
}
