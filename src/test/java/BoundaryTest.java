import java.io.IOException;

/** Each sentence of the document that names an edge, by its promise's number: the answer and the STATUS that it asks for. */
public final class BoundaryTest {
    public static void main(String[] args) throws IOException {
        Sentences sentences = new Sentences("BoundaryTest");
        new TextBounds(sentences).tell();
        new StateBounds(sentences).tell();
        new ReckonBounds(sentences).tell();
        new DaysBounds(sentences).tell();
        new StatusBounds(sentences).tell();
        sentences.end();
    }
}
