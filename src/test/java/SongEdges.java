/** The boundary cases that the document names for promises 9 to 20, a test for each sentence. */
final class SongEdges {
    private SongEdges() {
    }

    static void all() {
        songNumbers();
        noteRanges();
        longSongs();
        removing();
        counting();
        rawSamples();
        refusedSamples("13 rawSample", SongRefinery::rawSample);
        refusedSamples("14 sample", SongRefinery::sample);
        refusedSamples("15 sampleByFilter", SongRefinery::sampleByFilter);
        FilteredEdges.all();
        mixing();
        peaks();
        energies();
        signs();
        strongest();
    }

    private static SongRefinery withNotes() {
        SongRefinery x = new SongRefinery();
        for (int song = 0; song < 4; song++) {
            x.addNote(song, 4, 10 + song, 6);
        }
        return x;
    }

    private static SongRefinery withFullSong(int song) {
        SongRefinery x = new SongRefinery();
        for (int i = 0; i < 4; i++) {
            x.addNote(song, 7, 900, 40);
        }
        return x;
    }

    private interface OfSong {
        void call(SongRefinery x, int song);
    }

    private static void songNumber(String method, OfSong of) {
        Check.test(method + ": IndexOutOfBoundsException if there is no such song", () -> {
            SongRefinery x = withNotes();
            for (int bad : Check.outside(0, 3)) {
                Check.refused(Check.IOOBE, "song " + bad, x, () -> of.call(x, bad));
            }
        });
        Check.test(method + ": there are the songs 0 to 3", () -> {
            SongRefinery x = withNotes();
            for (int song = 0; song < 4; song++) {
                of.call(x, song);
            }
        });
    }

    private static void songNumbers() {
        songNumber("9 addNote", (x, song) -> x.addNote(song, 2, 1, 1));
        songNumber("10 removeNote", (x, song) -> x.removeNote(song));
        songNumber("11 noteCount", (x, song) -> x.noteCount(song));
        songNumber("12 songLength", (x, song) -> x.songLength(song));
        songNumber("13 rawSample", (x, song) -> x.rawSample(song, 0));
        songNumber("14 sample", (x, song) -> x.sample(song, 0));
        songNumber("15 sampleByFilter", (x, song) -> x.sampleByFilter(song, 0));
        songNumber("16 mixedSample, the one song", (x, song) -> x.mixedSample(song, 0, 0));
        songNumber("16 mixedSample, the other song", (x, song) -> x.mixedSample(3, song, 0));
        songNumber("16 mixedSample, both songs", (x, song) -> x.mixedSample(song, song, 0));
        songNumber("17 peak", (x, song) -> x.peak(song));
        songNumber("18 energy", (x, song) -> x.energy(song));
        songNumber("19 signChanges", (x, song) -> x.signChanges(song));
        songNumber("23 pour", (x, song) -> x.pour(song));
        songNumber("30 frameCount", (x, song) -> x.frameCount(song));
        songNumber("31 dropsFor", (x, song) -> x.dropsFor(song));
        songNumber("32 dropsByLevels", (x, song) -> x.dropsByLevels(song));
        songNumber("44 meanLevel", (x, song) -> x.meanLevel(song));
    }

    private interface Noting {
        int put(SongRefinery x, int number);
    }

    private static void noteRange(String sentence, int least, int greatest, Noting noting) {
        Check.test("9 addNote: " + sentence + ", too small", () -> {
            SongRefinery x = withNotes();
            Check.refused(Check.IAE, "below", x, () -> noting.put(x, least - 1));
            Check.refused(Check.IAE, "the lowest", x, () -> noting.put(x, Integer.MIN_VALUE));
        });
        Check.test("9 addNote: " + sentence + ", too large", () -> {
            SongRefinery x = withNotes();
            Check.refused(Check.IAE, "above", x, () -> noting.put(x, greatest + 1));
            Check.refused(Check.IAE, "the highest", x, () -> noting.put(x, Integer.MAX_VALUE));
        });
        Check.test("9 addNote: " + sentence + ", the limits", () -> {
            SongRefinery x = new SongRefinery();
            noting.put(x, least);
            noting.put(x, greatest);
            Check.due("noteCount", x.noteCount(0), 2);
        });
    }

    private static void noteRanges() {
        noteRange("a period from 2 to 20 samples", 2, 20, (x, number) -> x.addNote(0, number, 5, 3));
        noteRange("an amplitude from 1 to 999", 1, 999, (x, number) -> x.addNote(0, 5, number, 3));
        noteRange("a length from 1 to 40 samples", 1, 40, (x, number) -> x.addNote(0, 5, 3, number));
    }

    private static void longSongs() {
        for (int song = 0; song < 4; song++) {
            int number = song;
            Check.test("9 addNote: at most 160 samples in all, song " + song, () -> {
                SongRefinery x = withFullSong(number);
                Check.due("songLength", x.songLength(number), 160);
                Check.refused(Check.ISE, "one more", x, () -> x.addNote(number, 2, 1, 1));
                Check.refused(Check.ISE, "40 more", x, () -> x.addNote(number, 2, 1, 40));
                Check.due("the last", x.rawSample(number, 159), -900);
            });
        }
        Check.test("9 addNote: 160 samples are not too many, 161 are", () -> {
            SongRefinery x = withFullSong(0);
            x.removeNote(0);
            x.addNote(0, 2, 3, 1);
            Check.refused(Check.ISE, "up to 161", x, () -> x.addNote(0, 2, 5, 40));
            Check.due("up to 160", x.addNote(0, 2, 5, 39), 160);
            Check.due("the last", x.rawSample(0, 159), 5);
        });
        Check.test("9 addNote: a full song leaves room in the others", () -> {
            SongRefinery x = withFullSong(1);
            for (int song = 0; song < 4; song++) {
                if (song != 1) {
                    Check.due("addNote", x.addNote(song, 2, 1, 40), 40);
                }
            }
        });
        Check.test("9 addNote: a song that gets full touches no sample of the others", () -> {
            SongRefinery x = new SongRefinery();
            x.addNote(0, 20, 7, 1);
            x.addNote(2, 20, 8, 1);
            for (int i = 0; i < 4; i++) {
                x.addNote(1, 2, 900, 40);
            }
            Check.due("the song before it", Look.rawSamples(x, 0), "7");
            Check.due("the song behind it", Look.rawSamples(x, 2), "8");
        });
        Check.test("9 addNote: 160 notes of one sample", () -> {
            SongRefinery x = new SongRefinery();
            for (int i = 1; i <= 160; i++) {
                Check.due("addNote", x.addNote(3, 2, i, 1), i);
            }
            Check.due("noteCount", x.noteCount(3), 160);
            Check.due("the last", x.rawSample(3, 159), 160);
            Check.refused(Check.ISE, "one more", x, () -> x.addNote(3, 2, 1, 1));
        });
    }

    private static void removing() {
        Check.test("10 removeNote: NoSuchElementException if the song has no notes", () -> {
            SongRefinery x = new SongRefinery();
            x.addNote(1, 2, 1, 1);
            Check.refused(Check.NSEE, "never one", x, () -> x.removeNote(0));
            x.removeNote(1);
            Check.refused(Check.NSEE, "none any more", x, () -> x.removeNote(1));
        });
        Check.test("10 removeNote: the only note leaves 0 samples", () -> {
            SongRefinery x = new SongRefinery();
            x.addNote(0, 2, 1, 40);
            Check.due("removeNote", x.removeNote(0), 0);
            Check.due("noteCount", x.noteCount(0), 0);
        });
        Check.test("10 removeNote: of a full song, which has room again", () -> {
            SongRefinery x = withFullSong(2);
            Check.due("removeNote", x.removeNote(2), 120);
            Check.due("40 samples again", x.addNote(2, 2, 1, 40), 160);
            Check.refused(Check.ISE, "then none", x, () -> x.addNote(2, 2, 1, 1));
        });
        Check.test("10 removeNote: the last of 160 notes", () -> {
            SongRefinery x = new SongRefinery();
            for (int i = 0; i < 160; i++) {
                x.addNote(0, 2, 1, 1);
            }
            Check.due("removeNote", x.removeNote(0), 159);
            Check.due("noteCount", x.noteCount(0), 159);
        });
        Check.test("10 removeNote: the last note, not the first one", () -> {
            SongRefinery x = new SongRefinery();
            x.addNote(0, 2, 5, 3);
            x.addNote(0, 2, 7, 1);
            Check.due("removeNote", x.removeNote(0), 3);
            Check.due("samples", Look.rawSamples(x, 0), "5 -5 5");
        });
    }

    private static void afterLonger(String method, OfSong of) {
        Check.test(method + ": of a short song after a longer one was asked for", () -> {
            SongRefinery x = withFullSong(0);
            of.call(x, 0);
            x.addNote(1, 2, 3, 2);
            Check.due("energy", x.energy(1), 18);
            of.call(x, 0);
            Check.due("peak", x.peak(1), 3);
            of.call(x, 0);
            Check.due("signChanges", x.signChanges(1), 1);
            of.call(x, 0);
            Check.due("meanLevel", x.meanLevel(1), 3.0);
        });
    }

    private static void counting() {
        afterLonger("17 peak, 18 energy, 19 signChanges, 44 meanLevel", (x, song) -> x.peak(song));
        Check.test("10 removeNote: after an undo the lengths of the notes are those before", () -> {
            SongRefinery x = new SongRefinery();
            x.addNote(0, 2, 5, 3);
            x.addNote(0, 2, 5, 7);
            x.removeNote(0);
            x.addNote(0, 2, 5, 9);
            x.undo();
            x.undo();
            Check.due("removeNote", x.removeNote(0), 3);
        });
        Check.test("11 noteCount: 0 without notes", () -> Check.due("noteCount", new SongRefinery().noteCount(3), 0));
        Check.test("12 songLength: 0 without notes", () -> Check.due("songLength", new SongRefinery().songLength(3), 0));
        Check.test("12 songLength: from 1 to 160", () -> {
            SongRefinery x = new SongRefinery();
            x.addNote(3, 2, 1, 1);
            Check.due("one", x.songLength(3), 1);
            Check.due("full", withFullSong(3).songLength(3), 160);
        });
    }

    private static void raw(int period, int length, String want) {
        SongRefinery x = new SongRefinery();
        x.addNote(0, period, 9, length);
        Check.due("period " + period, Look.rawSamples(x, 0), want);
    }

    private static void rawSamples() {
        Check.test("13 rawSample: the least period 2, again and again", () -> raw(2, 5, "9 -9 9 -9 9"));
        Check.test("13 rawSample: half of an odd period is rounded toward 0", () -> {
            raw(3, 7, "9 -9 -9 9 -9 -9 9");
            raw(5, 6, "9 9 -9 -9 -9 9");
            raw(19, 20, "9 9 9 9 9 9 9 9 9 -9 -9 -9 -9 -9 -9 -9 -9 -9 -9 9");
        });
        Check.test("13 rawSample: the greatest period 20 comes round at the index 20", () -> {
            raw(20, 22, "9 9 9 9 9 9 9 9 9 9 -9 -9 -9 -9 -9 -9 -9 -9 -9 -9 9 9");
        });
        Check.test("13 rawSample: a note of one sample, and one that ends within a half", () -> {
            raw(20, 1, "9");
            raw(6, 5, "9 9 9 -9 -9");
        });
        Check.test("13 rawSample: counted from 0 in each note", () -> {
            SongRefinery x = new SongRefinery();
            x.addNote(0, 4, 5, 3);
            x.addNote(0, 4, 5, 3);
            x.addNote(0, 2, 7, 1);
            Check.due("samples", Look.rawSamples(x, 0), "5 5 -5 5 5 -5 7");
        });
        Check.test("13 rawSample: the filters don't touch it", () -> {
            SongRefinery x = new SongRefinery();
            x.addNote(0, 2, 5, 2);
            x.addFilter('g', 0);
            Check.due("samples", Look.rawSamples(x, 0), "5 -5");
        });
        Check.test("13 rawSample: amplitudes 1 and 999", () -> {
            SongRefinery x = new SongRefinery();
            x.addNote(0, 2, 1, 2);
            x.addNote(0, 2, 999, 2);
            Check.due("samples", Look.rawSamples(x, 0), "1 -1 999 -999");
        });
    }

    interface Sampling {
        int get(SongRefinery x, int song, int index);
    }

    private static void refusedSamples(String method, Sampling sampling) {
        Check.test(method + ": NoSuchElementException if the index is negative", () -> {
            SongRefinery x = withFullSong(0);
            x.addNote(1, 2, 5, 3);
            Check.refused(Check.NSEE, "index -1", x, () -> sampling.get(x, 1, -1));
            Check.refused(Check.NSEE, "the lowest", x, () -> sampling.get(x, 1, Integer.MIN_VALUE));
        });
        Check.test(method + ": NoSuchElementException if the song has no sample with the index", () -> {
            SongRefinery x = withFullSong(0);
            x.addNote(1, 2, 5, 3);
            Check.refused(Check.NSEE, "behind a short song", x, () -> sampling.get(x, 1, 3));
            Check.refused(Check.NSEE, "behind a full song", x, () -> sampling.get(x, 0, 160));
            Check.refused(Check.NSEE, "the highest", x, () -> sampling.get(x, 0, Integer.MAX_VALUE));
        });
        Check.test(method + ": NoSuchElementException if the song has no notes", () -> {
            SongRefinery x = withFullSong(0);
            Check.refused(Check.NSEE, "never one", x, () -> sampling.get(x, 1, 0));
            x.addNote(1, 2, 5, 3);
            x.removeNote(1);
            Check.refused(Check.NSEE, "none any more", x, () -> sampling.get(x, 1, 0));
        });
        Check.test(method + ": the first and the last of 160 samples", () -> {
            SongRefinery x = withFullSong(2);
            Check.due("the first", sampling.get(x, 2, 0), 900);
            Check.due("the last", sampling.get(x, 2, 159), -900);
        });
        Check.test(method + ": the sample of a note that was removed is none any more", () -> {
            SongRefinery x = new SongRefinery();
            x.addNote(0, 2, 5, 3);
            x.addNote(0, 2, 5, 3);
            x.removeNote(0);
            Check.refused(Check.NSEE, "index 3", x, () -> sampling.get(x, 0, 3));
            Check.due("index 2", sampling.get(x, 0, 2), 5);
        });
    }

    private static void mixing() {
        Check.test("16 mixedSample: divided by 2, rounded toward 0", () -> {
            SongRefinery x = new SongRefinery();
            x.addNote(0, 2, 4, 2);
            x.addNote(1, 2, 1, 2);
            Check.due("5 by 2", x.mixedSample(0, 1, 0), 2);
            Check.due("-5 by 2", x.mixedSample(0, 1, 1), -2);
            Check.due("the other way round", x.mixedSample(1, 0, 1), -2);
        });
        Check.test("16 mixedSample: a song that has no such sample contributes 0", () -> {
            SongRefinery x = new SongRefinery();
            x.addNote(0, 2, 7, 4);
            x.addNote(1, 2, 100, 3);
            Check.due("behind the other one", x.mixedSample(0, 1, 3), -3);
            Check.due("behind the one", x.mixedSample(1, 0, 3), -3);
            Check.due("one without notes", x.mixedSample(2, 0, 0), 3);
            Check.due("the other without notes", x.mixedSample(0, 2, 0), 3);
            Check.due("the last of both", x.mixedSample(0, 1, 2), 53);
        });
        Check.test("16 mixedSample: possibly the same song", () -> {
            SongRefinery x = new SongRefinery();
            x.addNote(3, 2, 7, 2);
            Check.due("7 and 7", x.mixedSample(3, 3, 0), 7);
            Check.due("-7 and -7", x.mixedSample(3, 3, 1), -7);
        });
        Check.test("16 mixedSample: NoSuchElementException if neither song has such a sample", () -> {
            SongRefinery x = withFullSong(1);
            x.addNote(0, 2, 7, 4);
            Check.refused(Check.NSEE, "behind both", x, () -> x.mixedSample(0, 1, 160));
            Check.refused(Check.NSEE, "before both", x, () -> x.mixedSample(0, 1, -1));
            Check.refused(Check.NSEE, "the lowest", x, () -> x.mixedSample(0, 1, Integer.MIN_VALUE));
            Check.refused(Check.NSEE, "the highest", x, () -> x.mixedSample(1, 1, Integer.MAX_VALUE));
            Check.refused(Check.NSEE, "two songs without notes", x, () -> x.mixedSample(2, 3, 0));
            Check.due("the last of the longer one", x.mixedSample(0, 1, 159), -450);
        });
        Check.test("16 mixedSample: the filters start anew for each of the two", () -> {
            SongRefinery x = new SongRefinery();
            x.addNote(0, 2, 10, 3);
            x.addNote(1, 2, 30, 3);
            x.addFilter('d', 1);
            Check.due("index 0", x.mixedSample(0, 1, 0), 0);
            Check.due("index 1", x.mixedSample(0, 1, 1), 20);
            Check.due("index 2", x.mixedSample(1, 0, 2), -20);
        });
    }

    private static void peaks() {
        Check.test("17 peak: NoSuchElementException if the song has no notes", () -> {
            SongRefinery x = new SongRefinery();
            Check.refused(Check.NSEE, "never one", x, () -> x.peak(0));
            x.addNote(0, 2, 5, 3);
            x.removeNote(0);
            Check.refused(Check.NSEE, "none any more", x, () -> x.peak(0));
        });
        Check.test("17 peak: of one sample", () -> {
            SongRefinery x = new SongRefinery();
            x.addNote(0, 2, 5, 1);
            Check.due("peak", x.peak(0), 5);
            x.addFilter('f', 0);
            Check.due("peak of -5", x.peak(0), 5);
        });
        Check.test("17 peak: the absolute value of a negative sample", () -> {
            SongRefinery x = new SongRefinery();
            x.addNote(0, 3, 9, 1);
            x.addNote(0, 2, 100, 4);
            x.addFilter('m', 2);
            // 4 54 0 0 0
            Check.due("peak", x.peak(0), 54);
            x.addFilter('f', 0);
            Check.due("peak, flipped", x.peak(0), 54);
        });
        Check.test("17 peak: at the first and at the last of 160 samples", () -> {
            SongRefinery x = new SongRefinery();
            x.addNote(0, 2, 8, 1);
            x.addNote(1, 20, 3, 39);
            for (int i = 0; i < 3; i++) {
                x.addNote(0, 2, 5, 40);
                x.addNote(1, 2, 5, 40);
            }
            x.addNote(0, 2, 5, 39);
            x.addNote(1, 2, 8, 1);
            Check.due("at the first", x.peak(0), 8);
            Check.due("at the last", x.peak(1), 8);
        });
        Check.test("17 peak: 0 if all samples are 0", () -> {
            SongRefinery x = withFullSong(0);
            x.addFilter('g', 0);
            Check.due("peak", x.peak(0), 0);
        });
    }

    private static void energies() {
        Check.test("18 energy: 0 without notes", () -> {
            SongRefinery x = withFullSong(0);
            Check.due("never one", x.energy(1), 0);
            x.addNote(1, 2, 5, 1);
            x.removeNote(1);
            Check.due("none any more", x.energy(1), 0);
        });
        Check.test("18 energy: beyond the range of an int", () -> {
            SongRefinery x = new SongRefinery();
            for (int i = 0; i < 4; i++) {
                x.addNote(0, 2, 999, 40);
            }
            Check.due("160 samples of 999", x.energy(0), 160L * 999 * 999);
            for (int i = 0; i < 8; i++) {
                x.addFilter('g', 200);
            }
            // A single square is beyond it too.
            Check.due("160 samples of 255744", x.energy(0), 160L * 255744 * 255744);
        });
        Check.test("18 energy: the squares of negative samples count", () -> {
            SongRefinery x = new SongRefinery();
            x.addNote(0, 3, 2, 3);
            Check.due("2 -2 -2", x.energy(0), 12);
        });
    }

    private static void signs() {
        Check.test("19 signChanges: 0 without notes, of one sample, and of one sign", () -> {
            SongRefinery x = new SongRefinery();
            Check.due("without notes", x.signChanges(0), 0);
            x.addNote(0, 20, 5, 1);
            Check.due("one sample", x.signChanges(0), 0);
            x.addNote(0, 20, 5, 10);
            Check.due("one sign", x.signChanges(0), 0);
            x.addFilter('f', 0);
            Check.due("the negative sign", x.signChanges(0), 0);
        });
        Check.test("19 signChanges: in either order", () -> {
            SongRefinery x = new SongRefinery();
            x.addNote(0, 2, 5, 2);
            Check.due("positive, negative", x.signChanges(0), 1);
            x.addNote(1, 2, 5, 3);
            Check.due("and positive again", x.signChanges(1), 2);
            x.addFilter('f', 0);
            Check.due("negative, positive", x.signChanges(0), 1);
        });
        Check.test("19 signChanges: with nothing but zeros between them", () -> {
            SongRefinery x = new SongRefinery();
            x.addNote(0, 20, 9, 3);
            for (int i = 0; i < 2; i++) {
                x.addNote(0, 20, 2, 20);
            }
            x.addNote(0, 2, 9, 2);
            x.addFilter('s', 3);
            // 9 9 9, then 40 zeros, then 9 -9
            Check.due("equal signs round zeros, then a change", x.signChanges(0), 1);
            x.addNote(1, 2, 9, 2);
            x.addNote(1, 20, 2, 40);
            x.addNote(1, 20, 9, 1);
            // 9 -9, then 40 zeros, then 9
            Check.due("unequal signs round zeros", x.signChanges(1), 2);
        });
        Check.test("19 signChanges: zeros before the first and behind the last are no pair", () -> {
            SongRefinery x = new SongRefinery();
            x.addNote(0, 2, 1, 3);
            x.addNote(0, 2, 9, 1);
            x.addNote(0, 2, 1, 3);
            x.addFilter('s', 3);
            Check.due("0 0 0 9 0 0 0", x.signChanges(0), 0);
            x.addFilter('f', 0);
            Check.due("0 0 0 -9 0 0 0", x.signChanges(0), 0);
        });
        Check.test("19 signChanges: all samples are 0", () -> {
            SongRefinery x = withFullSong(0);
            x.addFilter('g', 0);
            Check.due("signChanges", x.signChanges(0), 0);
        });
        Check.test("19 signChanges: between all of 160 samples", () -> {
            SongRefinery x = new SongRefinery();
            for (int i = 0; i < 4; i++) {
                x.addNote(0, 2, 1, 40);
            }
            Check.due("signChanges", x.signChanges(0), 159);
        });
    }

    private static void strongest() {
        Check.test("20 strongestSong: the lowest number if all have the same energy", () -> {
            Check.due("without notes", new SongRefinery().strongestSong(), 0);
            SongRefinery x = new SongRefinery();
            for (int song = 3; song >= 0; song--) {
                x.addNote(song, 2, 5, 4);
            }
            Check.due("with equal notes", x.strongestSong(), 0);
        });
        Check.test("20 strongestSong: the lowest number of several that have the greatest energy", () -> {
            SongRefinery x = new SongRefinery();
            x.addNote(0, 2, 1, 1);
            x.addNote(3, 2, 5, 4);
            x.addNote(2, 2, 10, 1);
            Check.due("2 of 2 and 3", x.strongestSong(), 2);
            x.addNote(1, 4, 5, 4);
            Check.due("1 of 1, 2 and 3", x.strongestSong(), 1);
        });
        Check.test("20 strongestSong: by energies beyond the range of an int", () -> {
            SongRefinery x = new SongRefinery();
            x.addNote(1, 2, 181, 1);
            x.addNote(2, 2, 182, 1);
            for (int i = 0; i < 8; i++) {
                x.addFilter('g', 200);
            }
            // 46336 squared is below 2 to the 31st, 46592 squared is beyond it.
            Check.due("strongestSong", x.strongestSong(), 2);
        });
        Check.test("20 strongestSong: the last song", () -> {
            SongRefinery x = withNotes();
            Check.due("strongestSong", x.strongestSong(), 3);
        });
    }
}
