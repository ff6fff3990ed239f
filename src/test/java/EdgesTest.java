import java.io.IOException;

/** Each sentence of the document that names a boundary case, with a test of its own (run from the project's root). */
public final class EdgesTest {
    public static void main(String[] args) throws IOException {
        Edge edge = new Edge();
        new EdgesOfTerms(edge).all();
        new EdgesOfThings(edge).all();
        new EdgesOfPeople(edge).all();
        new EdgesOfWindows(edge).all();
        new EdgesOfShops(edge).all();
        edge.endOfAll();
    }
}
