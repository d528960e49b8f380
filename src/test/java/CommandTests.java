import java.util.NoSuchElementException;

/** Promises 37 to 40, with what the document's terms say of commands. */
final class CommandTests {
    private static final Class<IllegalArgumentException> IAE = IllegalArgumentException.class;
    private static final Class<IllegalStateException> ISE = IllegalStateException.class;
    private static final Class<NoSuchElementException> NSEE = NoSuchElementException.class;

    private CommandTests() {
    }

    static void all() {
        Check.test("37 append", CommandTests::append);
        Check.test("38 run: the filters' commands", CommandTests::filterCommands);
        Check.test("38 run: the other commands", CommandTests::otherCommands);
        Check.test("38 run: a full text", CommandTests::fullText);
        Check.test("38 run: all or none", CommandTests::allOrNone);
        Check.test("38 run: the text is empty afterwards", CommandTests::emptyAfterwards);
        Check.test("39 errorPosition", CommandTests::errorPosition);
        Check.test("39 errorPosition: set last", CommandTests::setLast);
        Check.test("40 failedCommand", CommandTests::failedCommand);
        Check.test("40 failedCommand: each command that can fail", CommandTests::eachFailure);
    }

    private static void append() {
        SongRefinery x = new SongRefinery();
        Check.due("the first", x.append(' '), 1);
        Check.due("the second", x.append('~'), 2);
        for (int code : new int[] {0, 10, 31, 127, 128, 255, 65535}) {
            Check.throwing(IAE, "code " + code, () -> x.append((char) code));
        }
        for (int i = 3; i <= 60; i++) {
            Check.due("character " + i, x.append('a'), i);
        }
        Check.throwing(ISE, "the 61st", () -> x.append('a'));
        Check.throwing(IAE, "a wrong 61st", () -> x.append((char) 31));
        Check.throwing(IAE, "run", x::run);
        Check.due("a new text", x.append('a'), 1);
        Check.throwing(ISE, "append is no change", x::undo);
    }

    private static void filterCommands() {
        SongRefinery x = new SongRefinery();
        Check.due("one command", Look.run(x, "gain 50"), 1);
        Check.due("five commands", Look.run(x, "delay 3;mean 007;clip 999;flip;step 10"), 5);
        Check.due("chain", Look.chain(x), "g50>d3>m7>c999>f>s10");
        Check.due("remove", Look.run(x, "remove 0;remove 1;gain 000"), 3);
        Check.due("chain", Look.chain(x), "d3>c999>f>s10>g0");
        Check.due("one change each", x.undo(), 2);
        Check.due("chain", Look.chain(x), "g50>d3>m7>c999>f>s10");
    }

    private static void otherCommands() {
        SongRefinery x = new SongRefinery();
        Check.due("note", Look.run(x, "note 1 3 70 8;note 1 20 999 9;note 0 02 1 040"), 3);
        Check.due("the first note", x.rawSample(1, 1), -70);
        Check.due("the second note", x.rawSample(1, 16), 999);
        Check.due("songLength", x.songLength(1), 17);
        Check.due("songLength", x.songLength(0), 40);
        x.removeNote(1);
        x.addNote(1, 2, 90, 8);
        Check.due("tanks", Look.run(x, "tank 3;tank 9;tune 1 80;pour 1"), 4);
        Check.due("tank 0", Look.tank(x, 0), "1/3 90");
        Check.due("tank 1", Look.tank(x, 1), "1/9@80 70");
        Check.due("drain", Look.run(x, "pour 1;drain 1 2;flip"), 3);
        Check.due("tank 0", Look.tank(x, 0), "2/3 90 90");
        Check.due("tank 1", Look.tank(x, 1), "0/9@80");
        Check.due("storedTotal", x.storedTotal(), 4);
        Check.due("drainedTotal", x.drainedTotal(), 2);
        Check.due("pour behind a filter of the same run", Look.run(x, "remove 0;gain 10;pour 1"), 3);
        Check.due("tank 1", Look.tank(x, 1), "2/9@80 7 9");
    }

    private static void fullText() {
        SongRefinery x = new SongRefinery();
        Check.due("12 commands are too many filters", fails(x, "flip;flip;flip;flip;flip;flip;flip;flip;flip;flip;flip;flip"), 8);
        Check.due("60 characters", Look.run(x, "note 0 2 1 1;note 0 2 1 1;note 0 2 1 1;note 0 2 1 001;tank 9"), 5);
        Check.due("noteCount", x.noteCount(0), 4);
        Check.due("60 characters and a ; at the end", error(x, "note 0 2 1 1;note 0 2 1 1;note 0 2 1 1;note 0 2 1 01;tank 9;"), 60);
        Check.due("59 characters", error(x, "flip;flip;flip;flip;flip;flip;flip;flip;flip;flip;flip;flip;"), 60);
    }

    private static int error(SongRefinery x, String text) {
        Look.type(x, text);
        Check.throwing(IAE, text, x::run);
        return x.errorPosition();
    }

    private static int fails(SongRefinery x, String text) {
        Look.type(x, text);
        Check.throwing(ISE, text, x::run);
        return x.failedCommand();
    }

    private static void allOrNone() {
        SongRefinery x = new SongRefinery();
        Look.run(x, "tank 2;note 0 2 5 9;pour 0;gain 90");
        String before = Look.at(x);
        Check.due("the last one fails", fails(x, "flip;note 0 2 5 9;tank 3;tune 0 1;drain 0 1;remove 7"), 5);
        Check.due("nothing was carried out", Look.at(x), before);
        Check.due("a wrong text behind right commands", error(x, "flip;tank 3;x"), 12);
        Check.due("nothing was carried out", Look.at(x), before);
        Check.due("the first run is the only change", x.undo(), 0);
        Check.due("on what commands before it did", Look.run(x, "tank 1;note 1 2 5 9;pour 1;drain 0 1;flip;remove 0"), 6);
    }

    private static void emptyAfterwards() {
        SongRefinery x = new SongRefinery();
        Look.run(x, "flip");
        Check.due("after a run", x.append('g'), 1);
        Check.throwing(IAE, "run", x::run);
        Check.due("after a wrong text", x.append('p'), 1);
        Look.type(x, "our 0");
        Check.throwing(ISE, "run", x::run);
        Check.due("after a failure", x.append('f'), 1);
        SongRefinery y = new SongRefinery();
        Look.run(y, "gain 155;flip");
        Look.run(y, "gain 15");
        Check.due("nothing of a longer text before", Look.chain(y), "g155>f>g15");
        Check.due("nothing of its commands", error(y, "flip;flip;"), 10);
        Check.due("going on", Look.run(x, "lip"), 1);
    }

    private static void errorPosition() {
        SongRefinery x = new SongRefinery();
        Check.throwing(NSEE, "none set", x::errorPosition);
        Check.due("an empty text", error(x, ""), 0);
        Object[][] texts = {
            {"x", 0}, {" ", 0}, {";", 0}, {"G", 0}, {"5", 0}, {"g", 1}, {"gx", 1}, {"ga", 2}, {"gain", 4}, {"gain ", 5},
            {"gain5", 4}, {"gain  5", 5}, {"gain x", 5}, {"gain;", 4}, {"gain ;", 5}, {"gain -5", 5}, {"gain 1234", 8},
            {"gain 12x", 7}, {"gain 12 ", 7}, {"gain 12 5", 7}, {"gain 5;", 7}, {"gain 5;;", 7}, {"gain 5; flip", 7},
            {"d", 1}, {"dx", 1}, {"de", 2}, {"dr", 2}, {"dey", 2}, {"drx", 2}, {"delain", 4}, {"dralay", 3}, {"t", 1},
            {"tu", 2}, {"ta", 2}, {"te", 1}, {"tanx", 3}, {"tunk 5", 3}, {"flip", -1}, {"flip ", 4}, {"flip 0", 4},
            {"flipp", 4}, {"fl", 2}, {"remove 12", 8}, {"remove x", 7}, {"remove", 6}, {"r", 1}, {"rain", 1}, {"note 1", 6},
            {"note 12", 6}, {"note 1 ", 7}, {"note 1 2 3", 10}, {"note 1 2 3;", 10}, {"note 1 2 3 4 5", 12},
            {"note 1 1234 3 4", 10}, {"note 1 123 4567", 14}, {"nove", 2}, {"tank 10", 6}, {"tank 5 ", 6}, {"tune 0 1000", 10},
            {"tune 0", 6}, {"tune 0;", 6}, {"pour 01", 6}, {"pour", 4}, {"poor", 2}, {"drain 0 10", 9}, {"drain 0", 7},
            {"drain 00", 7}, {"step 10;clip 5;mean 2;men", 24}, {"flip;flip;flop", 12}, {"clip 5,flip", 6}, {"m", 1},
            {"s", 1}, {"c", 1}, {"n", 1}, {"p", 1}, {"fLip", 1}, {"gain 5:", 6}, {"gain /", 5}
        };
        for (Object[] row : texts) {
            int want = (Integer) row[1];
            if (want >= 0) {
                SongRefinery y = new SongRefinery();
                Check.due("the error position of \"" + row[0] + "\"", error(y, (String) row[0]), want);
            }
        }
    }

    private static void setLast() {
        SongRefinery x = new SongRefinery();
        error(x, "gain");
        Check.due("a failure leaves it", fails(x, "pour 0"), 0);
        Check.due("errorPosition", x.errorPosition(), 4);
        Look.run(x, "flip");
        Check.due("a run leaves it", x.errorPosition(), 4);
        x.save();
        error(x, "fx");
        x.undo();
        x.restore();
        Check.due("undo and restore leave it", x.errorPosition(), 1);
        Check.due("errorPosition is asked twice", x.errorPosition(), 1);
    }

    private static void failedCommand() {
        SongRefinery x = new SongRefinery();
        Check.throwing(NSEE, "none failed", x::failedCommand);
        error(x, "gain");
        Check.throwing(NSEE, "a wrong text is no failure", x::failedCommand);
        Check.due("the first", fails(x, "gain 201"), 0);
        Check.due("the second of three", fails(x, "flip;mean 1;pour 0"), 1);
        error(x, "gain 201;flop");
        Check.due("a wrong text leaves it", x.failedCommand(), 1);
        x.save();
        Look.run(x, "flip");
        x.undo();
        x.restore();
        Check.due("a run, undo and restore leave it", x.failedCommand(), 1);
        Check.throwing(ISE, "failures are no changes", x::undo);
    }

    private static void eachFailure() {
        String[] texts = {"gain 201", "delay 0", "delay 9", "mean 1", "mean 9", "clip 0", "step 1", "step 100", "remove 0",
            "note 4 2 1 1", "note 0 1 1 1", "note 0 21 1 1", "note 0 2 0 1", "note 0 2 1 0", "note 0 2 1 41", "tank 0",
            "tune 0 5", "pour 0", "pour 4", "drain 0 1", "drain 0 0"};
        for (String text : texts) {
            SongRefinery x = new SongRefinery();
            Check.due("the failed command of flip;" + text, fails(x, "flip;remove 0;" + text), 2);
            Check.due("filterCount", x.filterCount(), 0);
        }
        SongRefinery full = new SongRefinery();
        Check.due("a fifth tank", fails(full, "tank 1;tank 1;tank 1;tank 1;tank 1"), 4);
        full.addNote(0, 2, 1, 40);
        full.addNote(0, 2, 1, 40);
        full.addNote(0, 2, 1, 40);
        Check.due("too many samples", fails(full, "note 0 2 1 39;note 0 2 1 1;note 0 2 1 1"), 2);
        Check.due("too many frames", fails(full, "tank 2;pour 0;drain 0 2;drain 0 1"), 3);
    }
}
