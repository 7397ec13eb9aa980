/** For each sentence of the document a test of its own, the boundaries that it names before all. */
public final class EdgeTest {
    public static void main(String[] args) throws Exception {
        EdgeWheel.run();
        EdgeText.run();
        EdgeEnvoy.run();
        EdgeMove.run();
        EdgeCall.run();
        EdgeThought.run();
        EdgeTold.run();
        EdgeLots.run();
        EdgeHost.run();
        Edge.tellWhatIsNotQuoted();
        Check.finish();
    }
}
