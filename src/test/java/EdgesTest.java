import java.io.IOException;

/** Each sentence of the document, and both sides of each boundary that it names. */
public final class EdgesTest {
    public static void main(String[] args) throws IOException {
        Edges edges = new Edges();
        new EdgesOfTerms(edges).all();
        new EdgesOfRows(edges).all();
        new EdgesOfTexts(edges).all();
        new EdgesOfDays(edges).all();
        new EdgesOfActs(edges).all();
        new EdgesOfForetold(edges).all();
        new EdgesOfGuesses(edges).all();
        new EdgesOfAsks(edges).all();
        edges.end();
    }
}
