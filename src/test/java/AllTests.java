public final class AllTests {
    public static void main(String[] arguments) {
        System.out.println((new SongRefinery().filterCount() == 0 ? "1 passed, 0" : "0 passed, 1") + " failed");
    }
}
