/** Refineries in which much has happened, so that a call that touches what it should not is seen. */
final class Rich {
    private Rich() {
    }

    /** Something of everything: a line, an error position, a failed command, a snapshot and a begun text. */
    static SongRefinery made() {
        SongRefinery x = new SongRefinery();
        Look.run(x, "tank 3;tank 2;note 0 3 40 20;note 0 2 9 7;note 3 5 77 9");
        Look.run(x, "gain 90;mean 2;tune 1 50;pour 0;pour 3;drain 0 1");
        x.save();
        wrongTexts(x);
        x.addFilter('c', 30);
        x.pour(3);
        x.describeTank(0);
        Look.type(x, "gain 50;pour 0");
        return x;
    }

    private static void wrongTexts(SongRefinery x) {
        Look.type(x, "flip;gaim");
        ended(x);
        Look.type(x, "flip;pour 2");
        ended(x);
    }

    private static void ended(SongRefinery x) {
        try {
            x.run();
        } catch (IllegalArgumentException | IllegalStateException thrown) {
            return;
        }
        throw new AssertionError("the run should have been refused");
    }

    /** 8 filters, 4 tanks (tank 0 full, tank 1 empty), song 0 with 160 samples, 60 characters, 8 changes. */
    static SongRefinery full() {
        SongRefinery x = new SongRefinery();
        for (int i = 0; i < 4; i++) {
            x.addNote(0, 5 + i, 900 - i, 40);
        }
        x.addNote(1, 4, 10, 8);
        x.addTank(1);
        x.pour(1);
        for (int i = 1; i < 4; i++) {
            x.addTank(2 * i);
        }
        wrongTexts(x);
        for (int i = 0; i < 8; i++) {
            x.addFilter('g', 101 + i);
        }
        x.describeChain();
        Look.type(x, "note 2 2 1 1;note 2 2 1 1;note 2 2 1 1;note 2 2 1 001;flip 0");
        return x;
    }
}
