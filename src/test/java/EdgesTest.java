import java.io.IOException;

/** For each sentence of the document that names an edge: the edge itself, and both sides of it. */
public final class EdgesTest {
    private EdgesTest() {
    }

    public static void main(String[] args) throws IOException {
        Edges e = new Edges();
        TermsEdges.all(e);
        RulesEdges.all(e);
        ShelfEdges.all(e);
        TownEdges.all(e);
        DoneEdges.all(e);
        BestEdges.all(e);
        KnowEdges.all(e);
        TruthEdges.all(e);
        FullEdges.all(e);
        e.end();
    }
}
