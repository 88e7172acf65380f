import java.io.IOException;

/** Issue 6: every sentence of the promises 1 to 23 and of 'Terms' that names a boundary case, with its own test. */
public final class EdgesTest {
    public static void main(String[] args) throws IOException {
        Edges.readDocument();
        EdgesOfDaysAndPersons.run();
        EdgesOfAsks.run();
        EdgesOfPresence.run();
        EdgesOfCalls.run();
        EdgesOfPromises1To8.run();
        EdgesOfPromises9To16.run();
        EdgesOfPromises17To23.run();
        EdgesOfRefusals.run();
        Edges.everySentenceHasATest();
        Script.end();
    }
}
