import java.io.IOException;

/** The document, sentence by sentence: each is quoted and has its boundary cases asked (all promises, all sections). */
public final class SentencesTest {
    public static void main(String[] args) throws IOException {
        Check c = new Check();
        Doc d = new Doc(c);
        new TermsEdges(c, d).all();
        new FaultEdges(c, d).all();
        new SecondsEdges(c, d).all();
        new AheadEdges(c, d).all();
        new RunsEdges(c, d).all();
        new StatusEdges(c, d).all();
        new PromisesTo21(c, d).all();
        new PromisesTo42(c, d).all();
        new PromisesTo61(c, d).all();
        d.end();
        c.end();
    }
}
