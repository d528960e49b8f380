/** Promises 47 to 49, with what the document's terms say of changes. */
final class UndoTests {
    private static final Class<IllegalStateException> ISE = IllegalStateException.class;

    private UndoTests() {
    }

    static void all() {
        Check.test("47 undo: each kind of change", UndoTests::eachChange);
        Check.test("47 undo: the latest 8", UndoTests::latestEight);
        Check.test("47 undo: what is no change", UndoTests::noChanges);
        Check.test("47 undo: changes that make no difference", UndoTests::noDifference);
        Check.test("48 save", UndoTests::save);
        Check.test("49 restore", UndoTests::restore);
        Check.test("48, 49 everything is saved", UndoTests::everything);
    }

    private static SongRefinery busy() {
        SongRefinery x = new SongRefinery();
        Look.run(x, "tank 3;tank 2;note 0 3 40 20;note 0 2 9 7;note 3 5 77 9");
        Look.run(x, "gain 90;mean 2;tune 1 50;pour 0;pour 3;pour 3;drain 0 1");
        return x;
    }

    private static void eachChange() {
        String[] names = {"addFilter", "insertFilter", "removeFilter", "swapFilters", "addNote", "removeNote", "addTank",
            "setTuning", "pour", "drain", "run"};
        for (int i = 0; i < names.length; i++) {
            SongRefinery x = busy();
            String before = Look.at(x);
            change(x, i);
            Check.dueTrue(names[i] + " differs", !Look.at(x).equals(before));
            Check.due("undo of " + names[i], x.undo(), 2);
            Check.due("the state after the undo of " + names[i], Look.at(x), before);
            Check.dueTrue("isConsistent", x.isConsistent());
        }
    }

    private static void change(SongRefinery x, int number) {
        switch (number) {
            case 0: x.addFilter('f', 0); break;
            case 1: x.insertFilter(0, 'c', 5); break;
            case 2: x.removeFilter(0); break;
            case 3: x.swapFilters(0, 1); break;
            case 4: x.addNote(0, 4, 4, 4); break;
            case 5: x.removeNote(0); break;
            case 6: x.addTank(4); break;
            case 7: x.setTuning(0, 4); break;
            case 8: x.pour(0); break;
            case 9: x.drain(1, 1); break;
            default: Look.run(x, "flip;note 1 2 3 4;tank 5;pour 1;remove 0"); break;
        }
    }

    private static void latestEight() {
        SongRefinery x = new SongRefinery();
        Check.throwing(ISE, "nothing to undo", x::undo);
        for (int i = 1; i <= 20; i++) {
            x.addNote(0, 2, i, 1);
        }
        for (int left = 7; left >= 0; left--) {
            Check.due("undo", x.undo(), left);
            Check.due("songLength", x.songLength(0), 12 + left);
        }
        Check.refused(ISE, "the ninth", x, x::undo);
        x.addNote(0, 2, 30, 1);
        x.addNote(0, 2, 40, 1);
        Check.due("new changes", x.undo(), 1);
        x.addNote(0, 2, 50, 1);
        Check.due("another one in its place", x.rawSample(0, 13), 50);
        Check.due("undone", x.undo(), 1);
        Check.due("undone", x.undo(), 0);
        Check.due("songLength", x.songLength(0), 12);
        Check.refused(ISE, "none left", x, x::undo);
    }

    private static void noChanges() {
        SongRefinery x = new SongRefinery();
        x.addTank(2);
        x.addNote(0, 2, 5, 9);
        x.describeChain();
        x.describeTank(0);
        x.dropsFor(0);
        x.dropsByLevels(0);
        x.isConsistent();
        x.save();
        x.append('x');
        Check.throwing(IllegalArgumentException.class, "run", x::run);
        Look.type(x, "pour 1");
        Check.throwing(ISE, "run", x::run);
        Check.throwing(IllegalArgumentException.class, "addTank(0)", () -> x.addTank(0));
        Check.throwing(IndexOutOfBoundsException.class, "removeFilter(0)", () -> x.removeFilter(0));
        x.append('f');
        Check.due("the latest change", x.undo(), 1);
        Check.due("was the note", x.songLength(0), 0);
        Check.due("the command text stays", x.append('l'), 2);
    }

    private static void noDifference() {
        SongRefinery x = new SongRefinery();
        x.addFilter('f', 0);
        x.swapFilters(0, 0);
        x.addTank(1);
        x.setTuning(0, 9999);
        Check.due("the same tuning", x.undo(), 3);
        Check.due("the tank", x.undo(), 2);
        Check.due("the swap", x.undo(), 1);
        Check.due("filterCount", x.filterCount(), 1);
        Check.due("the filter", x.undo(), 0);
        Check.due("filterCount", x.filterCount(), 0);
    }

    private static void save() {
        SongRefinery x = new SongRefinery();
        Check.due("of a new one", x.save(), 0);
        x.addFilter('f', 0);
        x.addFilter('g', 1);
        Check.due("of two filters", x.save(), 2);
        Check.due("changes can still be undone", x.undo(), 1);
        Check.due("the later snapshot counts", x.restore(), 2);
        Check.due("chain", Look.chain(x), "f>g1");
    }

    private static void restore() {
        SongRefinery x = new SongRefinery();
        Check.refused(ISE, "no snapshot", x, x::restore);
        x.addFilter('f', 0);
        Check.throwing(ISE, "no snapshot", x::restore);
        x.save();
        x.addFilter('g', 1);
        Check.due("restored", x.restore(), 1);
        Check.refused(ISE, "nothing can be undone", x, x::undo);
        x.removeFilter(0);
        Check.due("changes after it can", x.undo(), 0);
        Check.due("the snapshot is kept", x.restore(), 1);
        x.removeFilter(0);
        Check.due("and again", x.restore(), 1);
        Check.due("chain", Look.chain(x), "f");
    }

    private static void everything() {
        SongRefinery x = busy();
        String before = Look.at(x);
        String tank = Look.tank(x, 0);
        x.save();
        for (int i = 0; i < 11; i++) {
            if (i != 9) {
                change(x, i);
            }
        }
        Check.dueTrue("changed", !Look.at(x).equals(before));
        Check.due("restore", x.restore(), 2);
        Check.due("all that was saved", Look.at(x), before);
        Check.due("the tank", Look.tank(x, 0), tank);
        Check.dueTrue("isConsistent", x.isConsistent());
    }
}
