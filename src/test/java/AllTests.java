public final class AllTests {
    private AllTests() {
    }

    public static void main(String[] arguments) {
        FaceTests.all();
        FilterTests.all();
        SongTests.all();
        TankTests.all();
        CommandTests.all();
        LineTests.all();
        UndoTests.all();
        ModelTests.all();
        if (!Check.tell()) {
            System.exit(1);
        }
    }
}
