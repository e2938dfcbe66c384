/** Each sentence of the document that names a boundary has a test of its own here, and none is without one. */
public final class EdgesTest {
    public static void main(String[] args) {
        TextEdges.run();
        ThereEdges.run();
        ActEdges.run();
        WorldEdges.run();
        WayEdges.run();
        KeepEdges.run();
        Edge.allHaveTests();
        Check.end();
    }
}
