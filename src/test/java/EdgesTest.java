import java.io.IOException;
import java.nio.file.Path;

/** Each sentence of the terms and of promises 1 to 38 that names a bound, with a test of its own. */
public final class EdgesTest {
    public static void main(String[] args) throws IOException {
        Edges e = new Edges(Path.of(System.getProperty("truthover.document", "../shared/DOC.md")));
        new TermsEdges(e).run();
        new TextEdges(e).run();
        new ValleyEdges(e).run();
        new FarEdges(e).run();
        new HeavyEdges(e).run();
        new ThereEdges(e).run();
        e.end();
    }
}
