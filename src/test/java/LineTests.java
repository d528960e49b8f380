/** Promises 41 to 46. */
final class LineTests {
    private static final Class<IndexOutOfBoundsException> IOOBE = IndexOutOfBoundsException.class;
    private static final Class<ArithmeticException> AE = ArithmeticException.class;

    private LineTests() {
    }

    static void all() {
        Check.test("41 describeChain", LineTests::describeChain);
        Check.test("42 describeTank", LineTests::describeTank);
        Check.test("43 lineAt", LineTests::lineAt);
        Check.test("44 meanLevel", LineTests::meanLevel);
        Check.test("45 filledShare", LineTests::filledShare);
        Check.test("46 isConsistent", LineTests::isConsistent);
    }

    private static void describeChain() {
        SongRefinery x = new SongRefinery();
        Check.due("no filters", x.describeChain(), 0);
        x.addFilter('g', 50);
        x.addFilter('d', 3);
        x.addFilter('f', 0);
        x.addFilter('s', 10);
        Check.due("the document's example", Look.chain(x), "g50>d3>f>s10");
        x.addFilter('g', 0);
        x.addFilter('c', 999);
        x.addFilter('g', 200);
        x.addFilter('m', 8);
        Check.due("eight", Look.chain(x), "g50>d3>f>s10>g0>c999>g200>m8");
        SongRefinery longest = new SongRefinery();
        for (int i = 0; i < 8; i++) {
            longest.addFilter('c', 990 + i);
        }
        Check.due("the longest", Look.chain(longest), "c990>c991>c992>c993>c994>c995>c996>c997");
        SongRefinery one = new SongRefinery();
        one.addFilter('f', 0);
        Check.due("a flip alone", Look.chain(one), "f");
        one.removeFilter(0);
        Check.due("the line gets empty", one.describeChain(), 0);
        Check.throwing(IOOBE, "lineAt(0)", () -> one.lineAt(0));
    }

    private static void describeTank() {
        SongRefinery x = new SongRefinery();
        Check.throwing(IOOBE, "no tanks", () -> x.describeTank(0));
        x.addTank(5);
        Check.due("empty", Look.tank(x, 0), "0/5");
        x.addNote(0, 20, 300, 8);
        x.addNote(0, 20, 12, 1);
        x.pour(0);
        Check.due("two frames", Look.tank(x, 0), "2/5 300 12");
        x.setTuning(0, 800);
        Check.due("the document's example", Look.tank(x, 0), "2/5@800 300 12");
        x.setTuning(0, 9998);
        Check.due("a tuning of four digits", Look.tank(x, 0), "2/5@9998 300 12");
        x.setTuning(0, 0);
        Check.due("tuning 0", Look.tank(x, 0), "2/5@0 300 12");
        x.addFilter('g', 0);
        x.pour(0);
        Check.due("silent frames", Look.tank(x, 0), "4/5@0 300 12 0 0");
        String line = Look.tank(x, 0);
        Check.throwing(IOOBE, "tank 1", () -> x.describeTank(1));
        Check.throwing(IOOBE, "tank -1", () -> x.describeTank(-1));
        Check.due("the line stays", Look.line(x, 16), line);
        SongRefinery loud = new SongRefinery();
        loud.addTank(9);
        for (int i = 0; i < 4; i++) {
            loud.addNote(0, 2, 999, 40);
            loud.addFilter('g', 180);
        }
        loud.pour(0);
        loud.setTuning(0, 9998);
        Check.due("too loud, none stored", Look.tank(loud, 0), "0/9@9998");
        loud.removeFilter(0);
        loud.pour(0);
        Check.due("the longest", Look.tank(loud, 0), "9/9@9998 5824 5824 5824 5824 5824 5824 5824 5824 5824");
    }

    private static void lineAt() {
        SongRefinery x = new SongRefinery();
        Check.throwing(IOOBE, "at first", () -> x.lineAt(0));
        x.addFilter('g', 7);
        Check.throwing(IOOBE, "not described yet", () -> x.lineAt(0));
        Check.due("describeChain", x.describeChain(), 2);
        Check.due("the first", x.lineAt(0), 'g');
        Check.due("the last", x.lineAt(1), '7');
        Check.throwing(IOOBE, "behind", () -> x.lineAt(2));
        Check.throwing(IOOBE, "before", () -> x.lineAt(-1));
        Check.throwing(IOOBE, "far behind", () -> x.lineAt(Integer.MAX_VALUE));
        x.addTank(3);
        Check.due("replaced", Look.tank(x, 0), "0/3");
        x.undo();
        x.save();
        x.restore();
        Check.due("the line is not undone", Look.line(x, 3), "0/3");
        x.describeChain();
        Check.throwing(IOOBE, "a shorter line", () -> x.lineAt(2));
    }

    private static void meanLevel() {
        SongRefinery x = new SongRefinery();
        Check.throwing(AE, "no notes", () -> x.meanLevel(0));
        Check.throwing(IOOBE, "song 4", () -> x.meanLevel(4));
        Check.throwing(IOOBE, "song -1", () -> x.meanLevel(-1));
        x.addNote(0, 2, 5, 2);
        x.addNote(0, 2, 10, 1);
        Check.due("mean", x.meanLevel(0), 20.0 / 3.0);
        x.addFilter('c', 6);
        Check.due("filtered mean", x.meanLevel(0), 16.0 / 3.0);
        x.addFilter('g', 0);
        Check.due("silence", x.meanLevel(0), 0.0);
    }

    private static void filledShare() {
        SongRefinery x = new SongRefinery();
        Check.throwing(AE, "no tanks", x::filledShare);
        x.addTank(2);
        Check.due("empty", x.filledShare(), 0.0f);
        x.addTank(5);
        x.addNote(0, 2, 5, 9);
        x.pour(0);
        Check.due("two of seven", x.filledShare(), 2.0f / 7.0f);
        for (int i = 0; i < 4; i++) {
            x.pour(0);
        }
        Check.due("full", x.filledShare(), 1.0f);
    }

    private static void isConsistent() {
        SongRefinery x = new SongRefinery();
        Check.dueTrue("a new one", x.isConsistent());
        Look.run(x, "tank 3;tank 1;tune 1 30;note 0 3 29 40;note 2 7 88 33");
        Look.run(x, "mean 3;delay 8;gain 130;clip 80;step 7;flip;mean 8");
        Check.dueTrue("with all kinds", x.isConsistent());
        Look.run(x, "pour 0;pour 2;drain 0 2");
        Check.dueTrue("poured and drained", x.isConsistent());
        String before = Look.at(x);
        x.isConsistent();
        Check.due("asking changes nothing", Look.at(x), before);
        x.undo();
        Check.dueTrue("undone", x.isConsistent());
    }
}
