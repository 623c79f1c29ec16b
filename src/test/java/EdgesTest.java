/**
 * What the document names as an edge, sentence by sentence: of each promise each line, and each
 * sentence of the terms. After each refused call all that can be seen must be as without it.
 */
public final class EdgesTest {

    public static void main(String[] args) {
        EdgesOfFiles.check();
        EdgesOfChunks.check();
        EdgesOfNights.check();
        EdgesOfLinks.check();
        EdgesOfDrills.check();
        EdgesOfUse.check();
        Edge.dueAll();
        Check.close("EdgesTest");
    }
}
