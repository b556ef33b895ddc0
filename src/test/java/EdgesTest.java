import java.io.IOException;
import java.util.ArrayList;
import java.util.List;

/** A test of its own for each clause of the document that names an edge; each clause must be quoted by one at least. */
public final class EdgesTest {
    private record Edge(String heading, String words, Runnable test) {
    }

    private static final List<Edge> EDGES = new ArrayList<>();

    /** Puts a test on the list: the heading that its words stand under, "Promise 2" say, the words, and the test. */
    static void edge(String heading, String words, Runnable test) {
        EDGES.add(new Edge(heading, words, test));
    }

    public static void main(String[] args) throws IOException {
        TermEdges.list();
        TurnEdges.list();
        FieldEdges.list();
        TextEdges.list();
        StateEdges.list();
        LookEdges.list();
        WouldEdges.list();
        Doc doc = new Doc();
        for (Edge edge : EDGES) {
            doc.quote(edge.heading, edge.words);
            run(edge);
        }
        doc.tellUnquoted();
        System.out.println(EDGES.size() + " tests");
        Due.finish();
    }

    /** An exception that no test waits for is the fault of that one test; the others run all the same. */
    private static void run(Edge edge) {
        Due.under(edge.heading + ", \"" + edge.words + "\": ");
        int before = Due.asked();
        try {
            edge.test.run();
        } catch (RuntimeException e) {
            Due.tell("threw " + e);
        }
        if (Due.asked() == before) {
            Due.tell("nothing was asked");
        }
        Due.under("");
    }
}
