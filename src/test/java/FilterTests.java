/** Promises 1 to 8. */
final class FilterTests {
    private static final Class<IllegalArgumentException> IAE = IllegalArgumentException.class;
    private static final Class<IllegalStateException> ISE = IllegalStateException.class;
    private static final Class<IndexOutOfBoundsException> IOOBE = IndexOutOfBoundsException.class;

    private FilterTests() {
    }

    static void all() {
        Check.test("1 a new object", FilterTests::newObject);
        Check.test("2 addFilter adds to the end", FilterTests::addFilter);
        Check.test("2 addFilter: the parameters' limits", FilterTests::limits);
        Check.test("2 addFilter: at most 8 filters", FilterTests::eightFilters);
        Check.test("3 insertFilter moves those behind", FilterTests::insertFilter);
        Check.test("3 insertFilter: refusals in their order", FilterTests::insertRefusals);
        Check.test("4 removeFilter", FilterTests::removeFilter);
        Check.test("5 swapFilters", FilterTests::swapFilters);
        Check.test("6 filterCount", FilterTests::filterCount);
        Check.test("7 filterKind", FilterTests::filterKind);
        Check.test("8 filterParameter", FilterTests::filterParameter);
    }

    private static void newObject() {
        SongRefinery x = new SongRefinery();
        Check.due("filterCount", x.filterCount(), 0);
        for (int song = 0; song < 4; song++) {
            Check.due("noteCount", x.noteCount(song), 0);
            Check.due("songLength", x.songLength(song), 0);
        }
        Check.due("tankCount", x.tankCount(), 0);
        Check.due("totals", x.storedTotal() + x.droppedTotal() + x.drainedTotal(), 0);
        Check.throwing(IOOBE, "lineAt(0)", () -> x.lineAt(0));
        Check.throwing(ISE, "undo", x::undo);
        Check.throwing(ISE, "restore", x::restore);
        Check.dueTrue("isConsistent", x.isConsistent());
    }

    private static void addFilter() {
        SongRefinery x = new SongRefinery();
        Check.due("addFilter g", x.addFilter('g', 50), 1);
        Check.due("addFilter d", x.addFilter('d', 3), 2);
        Check.due("addFilter f", x.addFilter('f', 0), 3);
        Check.due("addFilter s", x.addFilter('s', 10), 4);
        Check.due("chain", Look.chain(x), "g50>d3>f>s10");
    }

    private static void limit(char kind, int least, int greatest) {
        SongRefinery x = new SongRefinery();
        Check.due("addFilter least " + kind, x.addFilter(kind, least), 1);
        Check.due("addFilter greatest " + kind, x.addFilter(kind, greatest), 2);
        Check.refused(IAE, "addFilter below " + kind, x, () -> x.addFilter(kind, least - 1));
        Check.refused(IAE, "addFilter above " + kind, x, () -> x.addFilter(kind, greatest + 1));
        Check.refused(IAE, "addFilter lowest int " + kind, x, () -> x.addFilter(kind, Integer.MIN_VALUE));
        Check.refused(IAE, "addFilter highest int " + kind, x, () -> x.addFilter(kind, Integer.MAX_VALUE));
        Check.due("the least kept", x.filterParameter(0), least);
        Check.due("the greatest kept", x.filterParameter(1), greatest);
    }

    private static void limits() {
        limit('g', 0, 200);
        limit('d', 1, 8);
        limit('m', 2, 8);
        limit('c', 1, 999);
        limit('f', 0, 0);
        limit('s', 2, 99);
        SongRefinery x = new SongRefinery();
        for (char kind : new char[] {'G', 'a', 'h', ' ', '\0', '\uffff'}) {
            Check.refused(IAE, "addFilter no kind " + (int) kind, x, () -> x.addFilter(kind, 2));
        }
    }

    private static SongRefinery withGains(int number) {
        SongRefinery x = new SongRefinery();
        for (int i = 0; i < number; i++) {
            x.addFilter('g', 100 + i);
        }
        return x;
    }

    private static void eightFilters() {
        SongRefinery x = withGains(7);
        Check.due("addFilter, the eighth", x.addFilter('g', 107), 8);
        Check.refused(ISE, "addFilter, the ninth", x, () -> x.addFilter('g', 1));
        Check.refused(IAE, "addFilter, a wrong ninth", x, () -> x.addFilter('g', 201));
        x.removeFilter(3);
        Check.due("addFilter after a removal", x.addFilter('f', 0), 8);
    }

    private static void insertFilter() {
        SongRefinery x = new SongRefinery();
        Check.due("insert into nothing", x.insertFilter(0, 's', 10), 1);
        Check.due("insert at the front", x.insertFilter(0, 'g', 150), 2);
        Check.due("insert at the end", x.insertFilter(2, 'c', 40), 3);
        Check.due("insert between", x.insertFilter(1, 'f', 0), 4);
        Check.due("chain", Look.chain(x), "g150>f>s10>c40");
        for (int i = 0; i < 4; i++) {
            x.insertFilter(4, 'm', 5 + i % 4);
        }
        Check.due("chain of eight", Look.chain(x), "g150>f>s10>c40>m8>m7>m6>m5");
    }

    private static void insertRefusals() {
        SongRefinery x = withGains(2);
        Check.refused(IOOBE, "insert before all", x, () -> x.insertFilter(-1, 'g', 1));
        Check.refused(IOOBE, "insert behind all", x, () -> x.insertFilter(3, 'g', 1));
        Check.refused(IOOBE, "insert far behind", x, () -> x.insertFilter(Integer.MAX_VALUE, 'g', 1));
        Check.refused(IOOBE, "position before kind", x, () -> x.insertFilter(3, 'x', 1));
        Check.refused(IAE, "insert no kind", x, () -> x.insertFilter(1, 'x', 1));
        Check.refused(IAE, "insert wrong parameter", x, () -> x.insertFilter(1, 'd', 9));
        SongRefinery full = withGains(8);
        Check.refused(ISE, "insert the ninth", full, () -> full.insertFilter(0, 'g', 1));
        Check.refused(ISE, "insert the ninth at the end", full, () -> full.insertFilter(8, 'g', 1));
        Check.refused(IAE, "insert a wrong ninth", full, () -> full.insertFilter(0, 'g', 201));
        Check.refused(IOOBE, "insert a ninth nowhere", full, () -> full.insertFilter(9, 'g', 1));
    }

    private static void removeFilter() {
        SongRefinery x = new SongRefinery();
        Check.refused(IOOBE, "remove from nothing", x, () -> x.removeFilter(0));
        for (int i = 0; i < 8; i++) {
            x.addFilter(i == 5 ? 'c' : 'g', 10 + i);
        }
        Check.refused(IOOBE, "remove before all", x, () -> x.removeFilter(-1));
        Check.refused(IOOBE, "remove behind all", x, () -> x.removeFilter(8));
        Check.due("remove the last", x.removeFilter(7), 17);
        Check.due("remove the first", x.removeFilter(0), 10);
        Check.due("remove between", x.removeFilter(2), 13);
        Check.due("chain", Look.chain(x), "g11>g12>g14>c15>g16");
        Check.refused(IOOBE, "remove what is not there now", x, () -> x.removeFilter(5));
    }

    private static void swapFilters() {
        SongRefinery x = new SongRefinery();
        Check.refused(IOOBE, "swap in nothing", x, () -> x.swapFilters(0, 0));
        x.addFilter('g', 1);
        x.addFilter('d', 2);
        x.addFilter('m', 3);
        x.addFilter('f', 0);
        Check.due("swap far", x.swapFilters(0, 3), 2);
        Check.due("chain", Look.chain(x), "f>d2>m3>g1");
        Check.due("swap back to front", x.swapFilters(3, 1), 1);
        Check.due("chain", Look.chain(x), "f>g1>m3>d2");
        Check.due("swap neighbours", x.swapFilters(2, 1), 0);
        Check.due("swap the same", x.swapFilters(3, 3), 0);
        Check.due("chain", Look.chain(x), "f>m3>g1>d2");
        Check.refused(IOOBE, "swap no first", x, () -> x.swapFilters(4, 0));
        Check.refused(IOOBE, "swap no second", x, () -> x.swapFilters(0, 4));
        Check.refused(IOOBE, "swap negative", x, () -> x.swapFilters(-1, 0));
        Check.refused(IOOBE, "swap negative second", x, () -> x.swapFilters(0, -1));
    }

    private static void filterCount() {
        SongRefinery x = withGains(3);
        Check.due("filterCount", x.filterCount(), 3);
        x.removeFilter(0);
        Check.due("filterCount after a removal", x.filterCount(), 2);
    }

    private static void filterKind() {
        SongRefinery x = new SongRefinery();
        Check.throwing(IOOBE, "kind of nothing", () -> x.filterKind(0));
        String kinds = "gdmcfs";
        for (int i = 0; i < 6; i++) {
            x.addFilter(kinds.charAt(i), kinds.charAt(i) == 'f' ? 0 : 2);
        }
        for (int i = 0; i < 6; i++) {
            Check.due("kind", x.filterKind(i), kinds.charAt(i));
        }
        Check.throwing(IOOBE, "kind before all", () -> x.filterKind(-1));
        Check.throwing(IOOBE, "kind behind all", () -> x.filterKind(6));
        x.removeFilter(5);
        Check.throwing(IOOBE, "kind of the removed", () -> x.filterKind(5));
    }

    private static void filterParameter() {
        SongRefinery x = withGains(8);
        for (int i = 0; i < 8; i++) {
            Check.due("parameter", x.filterParameter(i), 100 + i);
        }
        Check.throwing(IOOBE, "parameter before all", () -> x.filterParameter(-1));
        Check.throwing(IOOBE, "parameter behind all", () -> x.filterParameter(8));
        x.addTank(1);
        x.removeFilter(7);
        Check.throwing(IOOBE, "parameter of the removed", () -> x.filterParameter(7));
    }
}
