/** What the document's terms say of exceptions: which one is thrown, and that the call changes nothing else. */
final class RefusalEdges {
    private RefusalEdges() {
    }

    static void all() {
        severalApply();
        changesNothing();
        runChangesNothingElse();
    }

    private static void first(String sentence, Class<? extends RuntimeException> want, Deep.Maker maker, Deep.Call call) {
        Check.test(sentence, () -> {
            SongRefinery x = maker.make();
            Check.refused(want, "the call", x, () -> call.on(x));
        });
    }

    private static void severalApply() {
        first("2 addFilter: no such kind, before 8 filters", Check.IAE, Rich::full, x -> x.addFilter('x', 2));
        first("2 addFilter: a parameter out of range, before 8 filters", Check.IAE, Rich::full, x -> x.addFilter('d', 9));
        first("3 insertFilter: the position, before no such kind", Check.IOOBE, Rich::made, x -> x.insertFilter(4, 'x', 2));
        first("3 insertFilter: the position, before the parameter", Check.IOOBE, Rich::made, x -> x.insertFilter(-1, 'd', 9));
        first("3 insertFilter: the position, before 8 filters", Check.IOOBE, Rich::full, x -> x.insertFilter(9, 'd', 8));
        first("3 insertFilter: no such kind, before 8 filters", Check.IAE, Rich::full, x -> x.insertFilter(8, 'x', 2));
        first("3 insertFilter: the parameter, before 8 filters", Check.IAE, Rich::full, x -> x.insertFilter(0, 'f', 1));
        first("3 insertFilter: the position, before all else", Check.IOOBE, Rich::full, x -> x.insertFilter(-1, 'x', 1));
        first("9 addNote: the song, before the period", Check.IOOBE, Rich::full, x -> x.addNote(4, 1, 1, 1));
        first("9 addNote: the song, before the amplitude", Check.IOOBE, Rich::full, x -> x.addNote(-1, 2, 0, 1));
        first("9 addNote: the song, before the length", Check.IOOBE, Rich::full, x -> x.addNote(4, 2, 1, 41));
        first("9 addNote: the period, before too many samples", Check.IAE, Rich::full, x -> x.addNote(0, 21, 1, 1));
        first("9 addNote: the amplitude, before too many samples", Check.IAE, Rich::full, x -> x.addNote(0, 2, 1000, 1));
        first("9 addNote: the length, before too many samples", Check.IAE, Rich::full, x -> x.addNote(0, 2, 1, 41));
        first("9 addNote: a length of 0 in a full song", Check.IAE, Rich::full, x -> x.addNote(0, 2, 1, 0));
        first("9 addNote: the highest length in a full song", Check.IAE, Rich::full, x -> x.addNote(0, 2, 1, Integer.MAX_VALUE));
        first("10 removeNote: the song, before no notes", Check.IOOBE, SongRefinery::new, x -> x.removeNote(4));
        first("13 rawSample: the song, before the index", Check.IOOBE, Rich::made, x -> x.rawSample(4, 160));
        first("14 sample: the song, before the index", Check.IOOBE, Rich::made, x -> x.sample(-1, -1));
        first("15 sampleByFilter: the song, before the index", Check.IOOBE, Rich::made, x -> x.sampleByFilter(4, -1));
        first("16 mixedSample: the one song, before the index", Check.IOOBE, Rich::made, x -> x.mixedSample(4, 0, 160));
        first("16 mixedSample: the other song, before the index", Check.IOOBE, Rich::made, x -> x.mixedSample(0, -1, -1));
        first("16 mixedSample: the other song, though the one has the sample", Check.IOOBE, Rich::made, x -> x.mixedSample(0, 4, 0));
        first("17 peak: the song, before no notes", Check.IOOBE, SongRefinery::new, x -> x.peak(4));
        first("21 addTank: the capacity, before 4 tanks", Check.IAE, Rich::full, x -> x.addTank(10));
        first("21 addTank: a capacity of 0, before 4 tanks", Check.IAE, Rich::full, x -> x.addTank(0));
        first("22 setTuning: the tank, before the tuning", Check.IOOBE, Rich::made, x -> x.setTuning(2, 10000));
        first("23 pour: the song, before no notes", Check.IOOBE, SongRefinery::new, x -> x.pour(4));
        first("24 drain: the tank, before the number of frames", Check.IOOBE, Rich::made, x -> x.drain(2, 10));
        first("24 drain: the tank, before fewer frames", Check.IOOBE, Rich::made, x -> x.drain(-1, 9));
        first("24 drain: the number of frames, before fewer frames", Check.IAE, Rich::made, x -> x.drain(0, 10));
        first("24 drain: 0 frames of an empty tank", Check.IAE, Rich::full, x -> x.drain(1, 0));
        first("29 frameLoudness: the tank, before the frame", Check.IOOBE, Rich::made, x -> x.frameLoudness(2, 9));
        first("37 append: the character, before 60 characters", Check.IAE, Rich::full, x -> x.append((char) 127));
        first("44 meanLevel: the song, before no notes", Check.IOOBE, SongRefinery::new, x -> x.meanLevel(4));
    }

    /** The call throws, and no further call shows a difference to a refinery in which it was not made. */
    private static void nothing(String sentence, Class<? extends RuntimeException> want, Deep.Maker maker, Deep.Call call) {
        Check.test(sentence + ", changes nothing", () -> {
            SongRefinery x = maker.make();
            Check.throwing(want, "the call", () -> call.on(x));
            Check.due("all that can be told", Deep.after(maker, call), Deep.after(maker));
        });
    }

    private static void changesNothing() {
        nothing("2 addFilter: IllegalArgumentException", Check.IAE, Rich::made, x -> x.addFilter('x', 2));
        nothing("2 addFilter: IllegalStateException", Check.ISE, Rich::full, x -> x.addFilter('g', 2));
        nothing("3 insertFilter: IndexOutOfBoundsException", Check.IOOBE, Rich::made, x -> x.insertFilter(4, 'g', 2));
        nothing("3 insertFilter: IllegalArgumentException", Check.IAE, Rich::made, x -> x.insertFilter(0, 'g', 201));
        nothing("3 insertFilter: IllegalStateException", Check.ISE, Rich::full, x -> x.insertFilter(0, 'g', 2));
        nothing("4 removeFilter: IndexOutOfBoundsException", Check.IOOBE, Rich::made, x -> x.removeFilter(3));
        nothing("5 swapFilters: IndexOutOfBoundsException", Check.IOOBE, Rich::made, x -> x.swapFilters(0, 3));
        nothing("7 filterKind: IndexOutOfBoundsException", Check.IOOBE, Rich::made, x -> x.filterKind(3));
        nothing("8 filterParameter: IndexOutOfBoundsException", Check.IOOBE, Rich::made, x -> x.filterParameter(3));
        nothing("9 addNote: IndexOutOfBoundsException", Check.IOOBE, Rich::made, x -> x.addNote(4, 2, 1, 1));
        nothing("9 addNote: IllegalArgumentException", Check.IAE, Rich::made, x -> x.addNote(0, 2, 1, 41));
        nothing("9 addNote: IllegalStateException", Check.ISE, Rich::full, x -> x.addNote(0, 2, 1, 1));
        nothing("10 removeNote: IndexOutOfBoundsException", Check.IOOBE, Rich::made, x -> x.removeNote(4));
        nothing("10 removeNote: NoSuchElementException", Check.NSEE, Rich::made, x -> x.removeNote(1));
        nothing("11 noteCount: IndexOutOfBoundsException", Check.IOOBE, Rich::made, x -> x.noteCount(4));
        nothing("12 songLength: IndexOutOfBoundsException", Check.IOOBE, Rich::made, x -> x.songLength(4));
        nothing("13 rawSample: IndexOutOfBoundsException", Check.IOOBE, Rich::made, x -> x.rawSample(4, 0));
        nothing("13 rawSample: NoSuchElementException", Check.NSEE, Rich::made, x -> x.rawSample(0, 27));
        nothing("14 sample: IndexOutOfBoundsException", Check.IOOBE, Rich::made, x -> x.sample(4, 0));
        nothing("14 sample: NoSuchElementException", Check.NSEE, Rich::made, x -> x.sample(0, 27));
        nothing("15 sampleByFilter: IndexOutOfBoundsException", Check.IOOBE, Rich::made, x -> x.sampleByFilter(4, 0));
        nothing("15 sampleByFilter: NoSuchElementException", Check.NSEE, Rich::made, x -> x.sampleByFilter(0, 27));
        nothing("16 mixedSample: IndexOutOfBoundsException", Check.IOOBE, Rich::made, x -> x.mixedSample(0, 4, 0));
        nothing("16 mixedSample: NoSuchElementException", Check.NSEE, Rich::made, x -> x.mixedSample(0, 3, 27));
        nothing("17 peak: IndexOutOfBoundsException", Check.IOOBE, Rich::made, x -> x.peak(4));
        nothing("17 peak: NoSuchElementException", Check.NSEE, Rich::made, x -> x.peak(1));
        nothing("18 energy: IndexOutOfBoundsException", Check.IOOBE, Rich::made, x -> x.energy(4));
        nothing("19 signChanges: IndexOutOfBoundsException", Check.IOOBE, Rich::made, x -> x.signChanges(4));
        tanksChangeNothing();
        othersChangeNothing();
    }

    private static void tanksChangeNothing() {
        nothing("21 addTank: IllegalArgumentException", Check.IAE, Rich::made, x -> x.addTank(0));
        nothing("21 addTank: IllegalStateException", Check.ISE, Rich::full, x -> x.addTank(1));
        nothing("22 setTuning: IndexOutOfBoundsException", Check.IOOBE, Rich::made, x -> x.setTuning(2, 5));
        nothing("22 setTuning: IllegalArgumentException", Check.IAE, Rich::made, x -> x.setTuning(0, 10000));
        nothing("23 pour: IndexOutOfBoundsException", Check.IOOBE, Rich::made, x -> x.pour(4));
        nothing("23 pour: NoSuchElementException", Check.NSEE, Rich::made, x -> x.pour(1));
        nothing("24 drain: IndexOutOfBoundsException", Check.IOOBE, Rich::made, x -> x.drain(2, 1));
        nothing("24 drain: IllegalArgumentException", Check.IAE, Rich::made, x -> x.drain(0, 0));
        nothing("24 drain: NoSuchElementException", Check.NSEE, Rich::made, x -> x.drain(0, 9));
        nothing("26 capacity: IndexOutOfBoundsException", Check.IOOBE, Rich::made, x -> x.capacity(2));
        nothing("27 tuning: IndexOutOfBoundsException", Check.IOOBE, Rich::made, x -> x.tuning(2));
        nothing("28 level: IndexOutOfBoundsException", Check.IOOBE, Rich::made, x -> x.level(2));
        nothing("29 frameLoudness: IndexOutOfBoundsException", Check.IOOBE, Rich::made, x -> x.frameLoudness(2, 0));
        nothing("29 frameLoudness: NoSuchElementException", Check.NSEE, Rich::made, x -> x.frameLoudness(0, 9));
        nothing("30 frameCount: IndexOutOfBoundsException", Check.IOOBE, Rich::made, x -> x.frameCount(4));
        nothing("31 dropsFor: IndexOutOfBoundsException", Check.IOOBE, Rich::made, x -> x.dropsFor(4));
        nothing("32 dropsByLevels: IndexOutOfBoundsException", Check.IOOBE, Rich::made, x -> x.dropsByLevels(4));
        nothing("33 tankAtRank: NoSuchElementException", Check.NSEE, Rich::made, x -> x.tankAtRank(2));
    }

    private static SongRefinery withLine() {
        SongRefinery x = new SongRefinery();
        x.addFilter('m', 7);
        x.describeChain();
        x.append('f');
        return x;
    }

    private static SongRefinery withNothingToUndo() {
        SongRefinery x = Rich.made();
        x.restore();
        return x;
    }

    private static void othersChangeNothing() {
        nothing("37 append: IllegalArgumentException", Check.IAE, Rich::made, x -> x.append((char) 31));
        nothing("37 append: IllegalStateException", Check.ISE, Rich::full, x -> x.append('5'));
        nothing("39 errorPosition: NoSuchElementException", Check.NSEE, RefusalEdges::withLine, SongRefinery::errorPosition);
        nothing("40 failedCommand: NoSuchElementException", Check.NSEE, RefusalEdges::withLine, SongRefinery::failedCommand);
        nothing("42 describeTank: IndexOutOfBoundsException", Check.IOOBE, Rich::made, x -> x.describeTank(2));
        nothing("43 lineAt: IndexOutOfBoundsException", Check.IOOBE, Rich::made, x -> x.lineAt(60));
        nothing("44 meanLevel: IndexOutOfBoundsException", Check.IOOBE, Rich::made, x -> x.meanLevel(4));
        nothing("44 meanLevel: ArithmeticException", Check.AE, Rich::made, x -> x.meanLevel(1));
        nothing("45 filledShare: ArithmeticException", Check.AE, RefusalEdges::withLine, SongRefinery::filledShare);
        nothing("47 undo: IllegalStateException", Check.ISE, RefusalEdges::withNothingToUndo, SongRefinery::undo);
        nothing("49 restore: IllegalStateException", Check.ISE, RefusalEdges::withLine, SongRefinery::restore);
    }

    /** As if the wrong text were no more than one that sets what is to be set, on a refinery without a text. */
    private static void runChangesNothingElse() {
        Check.test("38 run: IllegalArgumentException, changes nothing but the text and the error position", () -> {
            Deep.Maker maker = RefusalEdges::madeWithoutText;
            String got = Deep.after(maker, x -> runText(x, "flip;tank 3;pour 3;drain 0 1;gaim", Check.IAE));
            String want = Deep.after(maker, x -> runText(x, "note 0 3 40 20;note 0 2 9 77;gaim", Check.IAE));
            Check.due("all that can be told", got, want);
            Check.dueTrue("the error position was set", got.contains("error 32|"));
        });
        Check.test("38 run: IllegalStateException, changes nothing but the text and the failed command", () -> {
            Deep.Maker maker = RefusalEdges::madeWithoutText;
            String got = Deep.after(maker, x -> runText(x, "flip;tank 3;pour 3;drain 0 1;pour 1", Check.ISE));
            String want = Deep.after(maker, x -> runText(x, "tank 1;tank 1;flip;mean 2;drain 3 9", Check.ISE));
            Check.due("all that can be told", got, want);
            Check.dueTrue("the failed command was set", got.contains("failed 4"));
        });
    }

    private static SongRefinery madeWithoutText() {
        SongRefinery x = Rich.made();
        x.run();
        return x;
    }

    private static void runText(SongRefinery x, String text, Class<? extends RuntimeException> want) {
        Look.type(x, text);
        Check.throwing(want, "run of \"" + text + "\"", x::run);
    }
}
