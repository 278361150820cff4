import java.io.IOException;

/** Each sentence of ../shared/DOC.md by a test of its own; it fails, too, if a sentence has none. */
public final class DocumentTest {
    private DocumentTest() {
    }

    public static void main(String[] args) throws IOException {
        Edges.open();
        EdgesOfShips.show();
        EdgesOfOrders.show();
        EdgesOfTides.show();
        EdgesOfTotals.show();
        EdgesOfCommands.show();
        EdgesOfRejections.show();
        EdgesOfHistory.show();
        Edges.close();
    }
}
