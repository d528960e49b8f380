/** The boundary cases that the document names for promises 41 to 46, a test for each sentence. */
final class LineEdges {
    private LineEdges() {
    }

    static void all() {
        chains();
        tanks();
        characters();
        means();
        shares();
        consistency();
    }

    private static void chains() {
        Check.test("41 describeChain: the line is empty without filters", () -> {
            SongRefinery x = new SongRefinery();
            Check.due("never one", x.describeChain(), 0);
            x.addFilter('g', 5);
            x.describeChain();
            x.removeFilter(0);
            Check.due("none any more", x.describeChain(), 0);
            Check.throwing(Check.IOOBE, "lineAt(0)", () -> x.lineAt(0));
        });
        Check.test("41 describeChain: no \">\" with one filter", () -> {
            SongRefinery x = new SongRefinery();
            x.addFilter('m', 2);
            Check.due("line", Look.chain(x), "m2");
        });
        Check.test("41 describeChain: its parameter, unless it is a flip", () -> {
            SongRefinery x = new SongRefinery();
            x.addFilter('f', 0);
            Check.due("a flip", Look.chain(x), "f");
            x.addFilter('g', 0);
            Check.due("a gain of 0", Look.chain(x), "f>g0");
            x.addFilter('f', 0);
            Check.due("a flip at the end", Look.chain(x), "f>g0>f");
        });
        Check.test("41 describeChain: eight filters with the longest parameters", () -> {
            SongRefinery x = new SongRefinery();
            for (int i = 0; i < 8; i++) {
                x.addFilter('c', 992 + i);
            }
            Check.due("line", Look.chain(x), "c992>c993>c994>c995>c996>c997>c998>c999");
            Check.due("length", x.describeChain(), 39);
        });
        Check.test("41 describeChain: parameters of one, two and three digits, with zeros in them", () -> {
            SongRefinery x = new SongRefinery();
            for (int parameter : new int[] {9, 10, 99, 100, 109, 200}) {
                x.addFilter('g', parameter);
            }
            Check.due("line", Look.chain(x), "g9>g10>g99>g100>g109>g200");
        });
        Check.test("41 describeChain: replacing a longer content", () -> {
            SongRefinery x = Rich.full();
            for (int i = 0; i < 7; i++) {
                x.removeFilter(1);
            }
            Check.due("line", Look.chain(x), "g101");
            Check.throwing(Check.IOOBE, "lineAt(4)", () -> x.lineAt(4));
        });
    }

    private static void tanks() {
        Check.test("42 describeTank: no tuning if it is 9999", () -> {
            SongRefinery x = new SongRefinery();
            x.addTank(1);
            Check.due("initially", Look.tank(x, 0), "0/1");
            x.setTuning(0, 9998);
            Check.due("9998", Look.tank(x, 0), "0/1@9998");
            x.setTuning(0, 9999);
            Check.due("9999 again", Look.tank(x, 0), "0/1");
        });
        Check.test("42 describeTank: the tuning 0", () -> {
            SongRefinery x = new SongRefinery();
            x.addTank(9);
            x.setTuning(0, 0);
            Check.due("line", Look.tank(x, 0), "0/9@0");
        });
        Check.test("42 describeTank: an empty tank has no blank", () -> {
            SongRefinery x = new SongRefinery();
            x.addTank(3);
            x.addNote(0, 2, 5, 1);
            x.pour(0);
            x.drain(0, 1);
            Check.due("line", Look.tank(x, 0), "0/3");
        });
        Check.test("42 describeTank: a full tank of the loudest frames", () -> {
            SongRefinery x = new SongRefinery();
            x.addTank(9);
            x.addNote(0, 2, 909, 40);
            x.addNote(0, 2, 909, 32);
            for (int parameter : new int[] {200, 200, 200, 125, 110}) {
                x.addFilter('g', parameter);
            }
            x.pour(0);
            x.setTuning(0, 1234);
            Check.due("line", Look.tank(x, 0), "9/9@1234 9999 9999 9999 9999 9999 9999 9999 9999 9999");
        });
        Check.test("42 describeTank: a frame of loudness 0", () -> {
            SongRefinery x = new SongRefinery();
            x.addTank(1);
            x.addNote(0, 2, 1, 1);
            x.addFilter('g', 0);
            x.pour(0);
            Check.due("line", Look.tank(x, 0), "1/1 0");
        });
        Check.test("42 describeTank: if there is no such tank the line stays", () -> {
            SongRefinery x = new SongRefinery();
            x.addFilter('m', 5);
            int length = x.describeChain();
            Check.throwing(Check.IOOBE, "describeTank(0)", () -> x.describeTank(0));
            Check.due("line", Look.line(x, length), "m5");
        });
        Check.test("42 describeTank: replacing a longer content", () -> {
            SongRefinery x = Rich.full();
            x.describeChain();
            Check.due("line", Look.tank(x, 1), "0/2");
            Check.throwing(Check.IOOBE, "lineAt(3)", () -> x.lineAt(3));
        });
    }

    private static void characters() {
        Check.test("43 lineAt: the line is initially empty", () -> {
            SongRefinery x = new SongRefinery();
            x.addFilter('f', 0);
            x.addTank(3);
            for (int bad : Check.outside(0, -1)) {
                Check.refused(Check.IOOBE, "index " + bad, x, () -> x.lineAt(bad));
            }
        });
        Check.test("43 lineAt: IndexOutOfBoundsException if there is no such index", () -> {
            SongRefinery x = new SongRefinery();
            x.addFilter('g', 50);
            x.describeChain();
            for (int bad : Check.outside(0, 2)) {
                Check.refused(Check.IOOBE, "index " + bad, x, () -> x.lineAt(bad));
            }
            Check.due("the first", x.lineAt(0), 'g');
            Check.due("the last", x.lineAt(2), '0');
        });
        Check.test("43 lineAt: of the longest chain", () -> {
            SongRefinery x = Rich.full();
            int length = x.describeChain();
            Check.due("length", length, 39);
            Check.due("the last", x.lineAt(38), '8');
            Check.refused(Check.IOOBE, "index 39", x, () -> x.lineAt(39));
        });
        Check.test("43 lineAt: changes leave the line as it was written", () -> {
            SongRefinery x = new SongRefinery();
            x.addFilter('g', 50);
            x.describeChain();
            x.removeFilter(0);
            Check.due("line", Look.line(x, 3), "g50");
        });
    }

    private static void means() {
        Check.test("44 meanLevel: ArithmeticException if the song has no notes", () -> {
            SongRefinery x = new SongRefinery();
            Check.refused(Check.AE, "never one", x, () -> x.meanLevel(3));
            x.addNote(3, 2, 5, 1);
            x.removeNote(3);
            Check.refused(Check.AE, "none any more", x, () -> x.meanLevel(3));
        });
        Check.test("44 meanLevel: of one sample", () -> {
            SongRefinery x = new SongRefinery();
            x.addNote(0, 2, 5, 1);
            x.addFilter('f', 0);
            Check.due("meanLevel", x.meanLevel(0), 5.0);
        });
        Check.test("44 meanLevel: a quotient that is no whole number", () -> {
            SongRefinery x = new SongRefinery();
            x.addNote(0, 2, 1, 2);
            x.addNote(0, 2, 2, 1);
            Check.due("4 by 3", x.meanLevel(0), 4.0 / 3.0);
        });
        Check.test("44 meanLevel: 160 of the loudest samples", () -> {
            SongRefinery x = new SongRefinery();
            for (int i = 0; i < 4; i++) {
                x.addNote(0, 2, 999, 40);
            }
            for (int i = 0; i < 8; i++) {
                x.addFilter('g', 200);
            }
            Check.due("meanLevel", x.meanLevel(0), 255744.0);
        });
        Check.test("44 meanLevel: 0 if all samples are 0", () -> {
            SongRefinery x = new SongRefinery();
            x.addNote(0, 2, 999, 40);
            x.addFilter('g', 0);
            Check.due("meanLevel", x.meanLevel(0), 0.0);
        });
    }

    private static void shares() {
        Check.test("45 filledShare: ArithmeticException if there are no tanks", () -> {
            SongRefinery x = new SongRefinery();
            Check.refused(Check.AE, "never one", x, x::filledShare);
            x.addTank(3);
            x.undo();
            Check.refused(Check.AE, "none any more", x, x::filledShare);
        });
        Check.test("45 filledShare: 0 if all tanks are empty", () -> {
            SongRefinery x = new SongRefinery();
            x.addTank(1);
            x.addTank(9);
            Check.due("filledShare", x.filledShare(), 0.0f);
        });
        Check.test("45 filledShare: 1 if all tanks are full", () -> {
            SongRefinery x = new SongRefinery();
            for (int i = 0; i < 4; i++) {
                x.addTank(9);
            }
            x.addNote(0, 2, 5, 40);
            for (int i = 0; i < 8; i++) {
                x.pour(0);
            }
            Check.due("filledShare", x.filledShare(), 1.0f);
        });
        Check.test("45 filledShare: a quotient of floats", () -> {
            SongRefinery x = new SongRefinery();
            x.addTank(2);
            x.addTank(1);
            x.addNote(0, 2, 5, 1);
            x.pour(0);
            Check.due("1 by 3", x.filledShare(), 1.0f / 3.0f);
        });
    }

    private static void consistency() {
        Check.test("46 isConsistent: a new object", () -> Check.dueTrue("isConsistent", new SongRefinery().isConsistent()));
        Check.test("46 isConsistent: with everything full", () -> {
            SongRefinery x = Rich.full();
            x.pour(0);
            Check.dueTrue("isConsistent", x.isConsistent());
        });
        Check.test("46 isConsistent: after frames were stored, dropped and drained, after undo and restore", () -> {
            SongRefinery x = Rich.made();
            Check.dueTrue("at first", x.isConsistent());
            x.drain(0, 1);
            Check.dueTrue("drained", x.isConsistent());
            x.undo();
            Check.dueTrue("undone", x.isConsistent());
            x.restore();
            Check.dueTrue("restored", x.isConsistent());
        });
        Check.test("46 isConsistent: without notes, without tanks, and with songs and no tanks", () -> {
            SongRefinery x = new SongRefinery();
            x.addTank(3);
            Check.dueTrue("no notes", x.isConsistent());
            SongRefinery y = new SongRefinery();
            y.addNote(3, 2, 5, 40);
            y.addFilter('d', 8);
            Check.dueTrue("no tanks", y.isConsistent());
            y.pour(3);
            Check.dueTrue("all dropped", y.isConsistent());
        });
    }
}
