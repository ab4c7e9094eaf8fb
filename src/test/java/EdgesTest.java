/** Each sentence of the document that names a boundary has a test here, told by its promise and its words. */
public final class EdgesTest {
    public static void main(String[] args) {
        Edges e = new Edges();
        new HouseEdges(e).all();
        new ThiefEdges(e).all();
        new WiringEdges(e).all();
        new TextEdges(e).all();
        new SheetEdges(e).all();
        new ImageEdges(e).all();
        e.end();
    }
}
