import java.io.IOException;
import java.nio.file.Path;

/** The document again, sentence by sentence: a test of its own for each that names an edge. */
public final class EdgeTest {
    public static void main(String[] args) throws IOException {
        Edge edge = new Edge(Path.of(args.length > 1 ? args[1] : "../shared/DOC.md"));
        new TextEdges(edge).run();
        new NightEdges(edge).run();
        new WayEdges(edge).run();
        new LogEdges(edge).run();
        new LookEdges(edge).run();
        new TellEdges(edge).run();
        new AskEdges(edge).run();
        edge.close();
    }
}
