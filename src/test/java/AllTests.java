public final class AllTests {
    private AllTests() {
    }

    public static void main(String[] arguments) {
        FaceTests.all();
        ReadmeTests.all();
        FilterTests.all();
        SongTests.all();
        TankTests.all();
        CommandTests.all();
        LineTests.all();
        UndoTests.all();
        FilterEdges.all();
        SongEdges.all();
        TankEdges.all();
        CommandEdges.all();
        LineEdges.all();
        UndoEdges.all();
        RefusalEdges.all();
        ModelTests.all();
        if (!Check.tell()) {
            System.exit(1);
        }
    }
}
