/** Every sentence of the document's terms and promises, each with checks of its own. */
public final class EdgesTest {
    private EdgesTest() {
    }

    public static void main(String[] args) throws Exception {
        Says.read();
        TermsEdges.run();
        LakeEdges.run();
        HoursEdges.run();
        GoesEdges.run();
        MindsEdges.run();
        WaysEdges.run();
        KeptEdges.run();
        Says.all();
        Check.finish();
    }
}
