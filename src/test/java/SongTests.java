import java.util.NoSuchElementException;

/** Promises 9 to 20, with what the document's terms say of songs and filters. */
final class SongTests {
    private static final Class<IllegalArgumentException> IAE = IllegalArgumentException.class;
    private static final Class<IllegalStateException> ISE = IllegalStateException.class;
    private static final Class<IndexOutOfBoundsException> IOOBE = IndexOutOfBoundsException.class;
    private static final Class<NoSuchElementException> NSEE = NoSuchElementException.class;

    private SongTests() {
    }

    static void all() {
        Check.test("9 addNote", SongTests::addNote);
        Check.test("9 addNote: limits", SongTests::noteLimits);
        Check.test("9 addNote: at most 160 samples", SongTests::fullSong);
        Check.test("10 removeNote", SongTests::removeNote);
        Check.test("11 noteCount", SongTests::noteCount);
        Check.test("12 songLength", SongTests::songLength);
        Check.test("13 rawSample", SongTests::rawSample);
        Check.test("14 sample, kind by kind", () -> kindByKind(false));
        Check.test("15 sampleByFilter, kind by kind", () -> kindByKind(true));
        Check.test("14, 15 a whole chain", SongTests::wholeChain);
        Check.test("14, 15 the loudest samples", SongTests::loudest);
        Check.test("14, 15 wrong songs and samples", SongTests::sampleRefusals);
        Check.test("16 mixedSample", SongTests::mixedSample);
        Check.test("17 peak", SongTests::peak);
        Check.test("18 energy", SongTests::energy);
        Check.test("19 signChanges", SongTests::signChanges);
        Check.test("20 strongestSong", SongTests::strongestSong);
    }

    private static void addNote() {
        SongRefinery x = new SongRefinery();
        Check.due("a note", x.addNote(0, 5, 10, 7), 7);
        Check.due("a further note", x.addNote(0, 2, 3, 2), 9);
        Check.due("another song", x.addNote(3, 2, 1, 1), 1);
        Check.due("samples", Look.rawSamples(x, 0), "10 10 -10 -10 -10 10 10 3 -3");
        Check.due("samples", Look.rawSamples(x, 3), "1");
    }

    private static void noteLimits() {
        SongRefinery x = new SongRefinery();
        Check.due("least", x.addNote(0, 2, 1, 1), 1);
        Check.due("greatest", x.addNote(0, 20, 999, 40), 41);
        int[][] wrong = {{1, 1, 1}, {21, 1, 1}, {2, 0, 1}, {2, 1000, 1}, {2, 1, 0}, {2, 1, 41}, {0, 1, 1}, {-2, 1, 1},
            {2, -1, 1}, {2, 1, -1}, {2, 1, Integer.MAX_VALUE}, {Integer.MIN_VALUE, 1, 1}};
        for (int[] note : wrong) {
            SongRefinery y = new SongRefinery();
            Check.refused(IAE, "a wrong note", y, () -> y.addNote(0, note[0], note[1], note[2]));
            Check.refused(IOOBE, "a wrong note of no song", y, () -> y.addNote(4, note[0], note[1], note[2]));
        }
        Check.refused(IOOBE, "a note of song -1", x, () -> x.addNote(-1, 2, 1, 1));
        Check.refused(IOOBE, "a note of song 4", x, () -> x.addNote(4, 2, 1, 1));
    }

    private static SongRefinery withFullSong(int song) {
        SongRefinery x = new SongRefinery();
        for (int i = 0; i < 4; i++) {
            x.addNote(song, 7, 900, 40);
        }
        return x;
    }

    private static void fullSong() {
        SongRefinery x = withFullSong(3);
        Check.due("songLength", x.songLength(3), 160);
        Check.refused(ISE, "one sample more", x, () -> x.addNote(3, 2, 1, 1));
        Check.refused(IAE, "a wrong note more", x, () -> x.addNote(3, 2, 1, 41));
        x.removeNote(3);
        x.addNote(3, 3, 5, 20);
        Check.refused(ISE, "21 samples more", x, () -> x.addNote(3, 2, 1, 21));
        Check.due("20 samples more", x.addNote(3, 2, 1, 20), 160);
        Check.due("the last but one", x.rawSample(3, 158), 1);
        Check.due("the last", x.rawSample(3, 159), -1);
        SongRefinery many = new SongRefinery();
        for (int i = 0; i < 160; i++) {
            many.addNote(2, 2, i + 1, 1);
        }
        Check.due("notes of one sample", many.noteCount(2), 160);
        Check.refused(ISE, "a note too many", many, () -> many.addNote(2, 2, 1, 1));
        Check.due("the last of many", many.rawSample(2, 159), 160);
        Check.due("the song behind it", many.songLength(3), 0);
    }

    private static void removeNote() {
        SongRefinery x = new SongRefinery();
        Check.refused(NSEE, "no note", x, () -> x.removeNote(0));
        Check.refused(IOOBE, "song 4", x, () -> x.removeNote(4));
        Check.refused(IOOBE, "song -1", x, () -> x.removeNote(-1));
        x.addNote(1, 2, 5, 9);
        x.addNote(1, 3, 6, 4);
        x.addNote(2, 3, 6, 3);
        Check.due("the last note goes", x.removeNote(1), 9);
        Check.due("noteCount", x.noteCount(1), 1);
        Check.due("a note in its place", x.addNote(1, 4, 8, 2), 11);
        Check.due("the sample in its place", x.rawSample(1, 9), 8);
        Check.due("removed again", x.removeNote(1), 9);
        Check.due("the first note goes", x.removeNote(1), 0);
        Check.due("the other song stays", x.songLength(2), 3);
        Check.refused(NSEE, "no note any more", x, () -> x.removeNote(1));
    }

    private static void noteCount() {
        SongRefinery x = new SongRefinery();
        x.addNote(2, 2, 5, 9);
        Check.due("one note", x.noteCount(2), 1);
        x.addNote(2, 2, 5, 9);
        Check.due("two notes", x.noteCount(2), 2);
        Check.due("no note", x.noteCount(1), 0);
        Check.throwing(IOOBE, "song 4", () -> x.noteCount(4));
        Check.throwing(IOOBE, "song -1", () -> x.noteCount(-1));
    }

    private static void songLength() {
        SongRefinery x = new SongRefinery();
        x.addNote(2, 2, 5, 9);
        x.addNote(2, 2, 5, 40);
        Check.due("samples", x.songLength(2), 49);
        Check.due("no samples", x.songLength(3), 0);
        Check.throwing(IOOBE, "song 4", () -> x.songLength(4));
        Check.throwing(IOOBE, "song -1", () -> x.songLength(-1));
    }

    private static void rawSample() {
        SongRefinery x = new SongRefinery();
        x.addNote(0, 3, 7, 8);
        x.addNote(0, 4, 5, 6);
        x.addFilter('f', 0);
        Check.due("raw samples", Look.rawSamples(x, 0), "7 -7 -7 7 -7 -7 7 -7 5 5 -5 -5 5 5");
        x.addNote(1, 20, 9, 22);
        Check.due("raw samples of the longest period", Look.rawSamples(x, 1),
            "9 9 9 9 9 9 9 9 9 9 -9 -9 -9 -9 -9 -9 -9 -9 -9 -9 9 9");
        Check.throwing(NSEE, "behind the last", () -> x.rawSample(0, 14));
        Check.throwing(NSEE, "before the first", () -> x.rawSample(0, -1));
        Check.throwing(NSEE, "far behind", () -> x.rawSample(0, Integer.MAX_VALUE));
        Check.throwing(NSEE, "of a song without notes", () -> x.rawSample(2, 0));
        Check.throwing(IOOBE, "song 4", () -> x.rawSample(4, 0));
        Check.throwing(IOOBE, "song -1", () -> x.rawSample(-1, -1));
    }

    private static void filtered(boolean byFilter, char kind, int parameter, String want) {
        SongRefinery x = new SongRefinery();
        x.addNote(1, 3, 99, 4);
        x.addNote(1, 4, 55, 6);
        x.addFilter(kind, parameter);
        String got = byFilter ? Look.samplesByFilter(x, 1) : Look.samples(x, 1);
        Check.due("" + kind + parameter, got, want);
    }

    /** The raw samples are 99 -99 -99 99 55 55 -55 -55 55 55. */
    private static void kindByKind(boolean byFilter) {
        filtered(byFilter, 'g', 50, "49 -49 -49 49 27 27 -27 -27 27 27");
        filtered(byFilter, 'g', 0, "0 0 0 0 0 0 0 0 0 0");
        filtered(byFilter, 'g', 200, "198 -198 -198 198 110 110 -110 -110 110 110");
        filtered(byFilter, 'd', 1, "0 99 -99 -99 99 55 55 -55 -55 55");
        filtered(byFilter, 'd', 3, "0 0 0 99 -99 -99 99 55 55 -55");
        filtered(byFilter, 'd', 8, "0 0 0 0 0 0 0 0 99 -99");
        filtered(byFilter, 'm', 2, "49 0 -99 0 77 55 0 -55 0 55");
        filtered(byFilter, 'm', 3, "33 0 -33 -33 18 69 18 -18 -18 18");
        filtered(byFilter, 'm', 8, "12 0 -12 0 6 13 6 0 -5 13");
        filtered(byFilter, 'c', 60, "60 -60 -60 60 55 55 -55 -55 55 55");
        filtered(byFilter, 'c', 55, "55 -55 -55 55 55 55 -55 -55 55 55");
        filtered(byFilter, 'c', 1, "1 -1 -1 1 1 1 -1 -1 1 1");
        filtered(byFilter, 'f', 0, "-99 99 99 -99 -55 -55 55 55 -55 -55");
        filtered(byFilter, 's', 10, "90 -90 -90 90 50 50 -50 -50 50 50");
        filtered(byFilter, 's', 56, "56 -56 -56 56 0 0 0 0 0 0");
    }

    private static void wholeChain() {
        SongRefinery x = new SongRefinery();
        x.addNote(0, 2, 100, 6);
        Check.due("without filters", Look.samples(x, 0), "100 -100 100 -100 100 -100");
        Check.due("without filters, by filter", Look.samplesByFilter(x, 0), "100 -100 100 -100 100 -100");
        x.addFilter('d', 1);
        x.addFilter('d', 2);
        Check.due("two delays", Look.samples(x, 0), "0 0 0 100 -100 100");
        Check.due("two delays, by filter", Look.samplesByFilter(x, 0), "0 0 0 100 -100 100");
        x.insertFilter(0, 'm', 4);
        x.addFilter('c', 20);
        x.addFilter('s', 7);
        x.addFilter('f', 0);
        Check.due("a long chain", Look.samples(x, 0), "0 0 0 -14 0 -14");
        Check.due("a long chain, by filter", Look.samplesByFilter(x, 0), "0 0 0 -14 0 -14");
        x.swapFilters(0, 3);
        Check.due("in another order", Look.samples(x, 0), "0 0 0 0 0 0");
        x.addNote(1, 2, 100, 6);
        Check.due("another song starts anew", Look.samples(x, 1), "0 0 0 0 0 0");
        Check.dueTrue("isConsistent", x.isConsistent());
    }

    private static void loudest() {
        SongRefinery x = new SongRefinery();
        x.addNote(0, 2, 999, 40);
        for (int i = 0; i < 8; i++) {
            x.addFilter('g', 200);
        }
        Check.due("sample", x.sample(0, 38), 255744);
        Check.due("sample", x.sample(0, 39), -255744);
        Check.due("sampleByFilter", x.sampleByFilter(0, 39), -255744);
        Check.due("peak", x.peak(0), 255744);
        Check.due("energy", x.energy(0), 40L * 255744L * 255744L);
        Check.due("meanLevel", x.meanLevel(0), 255744.0);
    }

    private static void sampleRefusals() {
        SongRefinery x = new SongRefinery();
        x.addNote(0, 2, 5, 3);
        Check.throwing(NSEE, "sample behind", () -> x.sample(0, 3));
        Check.throwing(NSEE, "sample before", () -> x.sample(0, -1));
        Check.throwing(NSEE, "sample far behind", () -> x.sample(0, Integer.MAX_VALUE));
        Check.throwing(NSEE, "sample of no notes", () -> x.sample(1, 0));
        Check.throwing(IOOBE, "sample of song 4", () -> x.sample(4, 0));
        Check.throwing(IOOBE, "sample of song -1", () -> x.sample(-1, 7));
        Check.throwing(NSEE, "sampleByFilter behind", () -> x.sampleByFilter(0, 3));
        Check.throwing(NSEE, "sampleByFilter before", () -> x.sampleByFilter(0, -1));
        Check.throwing(NSEE, "sampleByFilter of no notes", () -> x.sampleByFilter(1, 0));
        Check.throwing(IOOBE, "sampleByFilter of song 4", () -> x.sampleByFilter(4, 0));
        Check.throwing(IOOBE, "sampleByFilter of song -1", () -> x.sampleByFilter(-1, 7));
    }

    private static void mixedSample() {
        SongRefinery x = new SongRefinery();
        x.addNote(1, 2, 40, 4);
        x.addNote(2, 4, 7, 2);
        Check.due("both", x.mixedSample(1, 2, 0), 23);
        Check.due("both, below 0", x.mixedSample(1, 2, 1), -16);
        Check.due("one alone", x.mixedSample(1, 2, 2), 20);
        Check.due("the other alone", x.mixedSample(2, 1, 3), -20);
        Check.due("the same", x.mixedSample(2, 2, 1), 7);
        x.addFilter('f', 0);
        Check.due("filtered", x.mixedSample(2, 1, 0), -23);
        x.addNote(0, 2, 5, 1);
        Check.due("an odd one below 0", x.mixedSample(0, 3, 0), -2);
        Check.throwing(NSEE, "neither", () -> x.mixedSample(1, 2, 4));
        Check.throwing(NSEE, "before", () -> x.mixedSample(1, 2, -1));
        Check.throwing(NSEE, "no notes", () -> x.mixedSample(3, 3, 0));
        Check.throwing(IOOBE, "no first", () -> x.mixedSample(4, 0, 0));
        Check.throwing(IOOBE, "no second", () -> x.mixedSample(0, -1, 0));
        Check.throwing(IOOBE, "no song and no sample", () -> x.mixedSample(0, 4, 99));
    }

    private static void peak() {
        SongRefinery x = new SongRefinery();
        Check.throwing(NSEE, "no notes", () -> x.peak(0));
        Check.throwing(IOOBE, "song 4", () -> x.peak(4));
        Check.throwing(IOOBE, "song -1", () -> x.peak(-1));
        x.addNote(0, 2, 30, 3);
        x.addNote(0, 9, 70, 3);
        Check.due("peak", x.peak(0), 70);
        x.addFilter('f', 0);
        Check.due("peak of a negative sample", x.peak(0), 70);
        x.addFilter('g', 0);
        Check.due("peak of silence", x.peak(0), 0);
        SongRefinery y = new SongRefinery();
        y.addNote(0, 2, 90, 20);
        y.addNote(1, 2, 50, 1);
        y.addNote(1, 2, 20, 3);
        Check.due("peak of the longer song", y.peak(0), 90);
        Check.due("peak at the first sample of the shorter song", y.peak(1), 50);
        Check.due("energy of the longer song", y.energy(0), 162000);
        Check.due("energy of the shorter song", y.energy(1), 3700);
        Check.due("meanLevel of the longer song", y.meanLevel(0), 90.0);
        Check.due("meanLevel of the shorter song", y.meanLevel(1), 27.5);
    }

    private static void energy() {
        SongRefinery x = new SongRefinery();
        Check.due("no notes", x.energy(0), 0);
        x.addNote(0, 2, 3, 3);
        x.addNote(0, 9, 10, 1);
        Check.due("energy", x.energy(0), 127);
        x.addFilter('c', 5);
        Check.due("filtered energy", x.energy(0), 52);
        Check.throwing(IOOBE, "song 4", () -> x.energy(4));
        Check.throwing(IOOBE, "song -1", () -> x.energy(-1));
    }

    private static void signChanges() {
        SongRefinery x = new SongRefinery();
        Check.due("no notes", x.signChanges(0), 0);
        x.addNote(0, 4, 3, 9);
        Check.due("two of each sign", x.signChanges(0), 4);
        x.addFilter('f', 0);
        Check.due("beginning below 0", x.signChanges(0), 4);
        x.removeFilter(0);
        x.addNote(2, 2, 9, 20);
        x.addNote(3, 2, 9, 1);
        x.addNote(3, 3, 9, 1);
        x.addNote(3, 2, 9, 2);
        Check.due("a long song", x.signChanges(2), 19);
        Check.due("then a short one", x.signChanges(3), 1);
        x.removeNote(3);
        x.removeNote(3);
        Check.due("then one of one sample", x.signChanges(3), 0);
        x.addNote(3, 2, 9, 2);
        x.removeNote(2);
        x.addNote(2, 2, 7, 2);
        Check.due("a change at the second sample", x.signChanges(2), 1);
        x.addFilter('m', 2);
        Check.due("zeros between", x.signChanges(0), 3);
        x.addFilter('d', 8);
        Check.due("zeros before", x.signChanges(0), 0);
        x.addNote(1, 20, 3, 10);
        x.removeFilter(1);
        Check.due("one sign", x.signChanges(1), 0);
        x.addNote(1, 20, 1, 4);
        x.addNote(1, 20, 8, 4);
        x.removeFilter(0);
        x.addFilter('s', 2);
        Check.due("zeros between equal signs", x.signChanges(1), 0);
        x.addFilter('g', 0);
        Check.due("zeros alone", x.signChanges(0), 0);
        Check.throwing(IOOBE, "song 4", () -> x.signChanges(4));
        Check.throwing(IOOBE, "song -1", () -> x.signChanges(-1));
    }

    private static void strongestSong() {
        SongRefinery x = new SongRefinery();
        Check.due("all without notes", x.strongestSong(), 0);
        x.addNote(3, 2, 5, 3);
        Check.due("the only one", x.strongestSong(), 3);
        x.addNote(1, 3, 5, 3);
        Check.due("the lower one of two", x.strongestSong(), 1);
        x.addNote(2, 2, 9, 1);
        Check.due("the greatest", x.strongestSong(), 2);
        x.addFilter('c', 5);
        Check.due("after the filters", x.strongestSong(), 1);
        x.addFilter('g', 0);
        Check.due("all silent", x.strongestSong(), 0);
    }
}
