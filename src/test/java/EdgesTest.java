import java.io.IOException;

/**
 * The document read sentence by sentence: each one that names a boundary case has a test of its own, in one of
 * the Edge classes, and at the end no word of the terms and promises may be left that no test has named.
 */
public final class EdgesTest {
    private EdgesTest() {
    }

    public static void main(String[] args) throws IOException {
        Document.read();
        EdgeTerms.all();
        EdgeText.all();
        EdgeRules.all();
        EdgePoints.all();
        EdgeDay.all();
        EdgeWhole.all();
        EdgeWorth.all();
        EdgeSheets.all();
        EdgeParts.all();
        Document.end();
        Due.end("EdgesTest");
    }
}
