import java.io.IOException;
import java.nio.file.Path;

/** Every sentence of DOC.md's Terms and promises: its bounds from both sides, the empty, the full and the refused. */
public final class BoundaryTest {
    private BoundaryTest() {
    }

    public static void main(String[] args) throws IOException {
        Doc doc = new Doc(Path.of(args.length > 0 ? args[0] : "../shared/DOC.md"));
        Checks checks = new Checks("BoundaryTest");
        Edges[] edges = {new TermEdges(doc, checks), new FeedEdges(doc, checks), new TankEdges(doc, checks),
            new MixEdges(doc, checks), new FlowEdges(doc, checks), new HourEdges(doc, checks),
            new ToldEdges(doc, checks), new OrderEdges(doc, checks)};
        for (Edges one : edges) {
            one.run();
        }
        checks.at("DOC.md");
        checks.due("promises", doc.promiseCount(), 24);
        for (String words : doc.notQuoted()) {
            checks.due("the test of \"" + words + "\"", "none", "one");
        }
        checks.end();
    }
}
