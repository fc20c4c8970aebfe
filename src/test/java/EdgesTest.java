/** Every sentence of the document that names a boundary, tested on either side of it. */
final class EdgesTest {
    public static void main(String[] args) throws Exception {
        Edges e = new Edges(Doc.read());
        EdgesOfChildren.run(e);
        EdgesOfTape.run(e);
        EdgesOfTexts.run(e);
        EdgesOfGroups.run(e);
        EdgesOfLaws.run(e);
        EdgesOfLater.run(e);
        EdgesOfLooks.run(e);
        EdgesOfWorlds.run(e);
        EdgesOfImages.run(e);
        e.end();
    }
}
