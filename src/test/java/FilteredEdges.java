/** The boundary cases that the document's terms name for the filtered samples (promises 14 and 15). */
final class FilteredEdges {
    private final String method;
    private final SongEdges.Sampling sampling;

    private FilteredEdges(String method, SongEdges.Sampling sampling) {
        this.method = method;
        this.sampling = sampling;
    }

    static void all() {
        new FilteredEdges("14 sample", SongRefinery::sample).each();
        new FilteredEdges("15 sampleByFilter", SongRefinery::sampleByFilter).each();
        Check.test("14, 15 the same samples with each filter, at its least and greatest parameter", FilteredEdges::bothWays);
    }

    private void each() {
        gains();
        delays();
        means();
        clips();
        flips();
        steps();
        chains();
        songs();
    }

    private String samples(SongRefinery x, int song) {
        StringBuilder text = new StringBuilder();
        int length = x.songLength(song);
        for (int i = 0; i < length; i++) {
            text.append(i == 0 ? "" : " ").append(sampling.get(x, song, i));
        }
        return text.toString();
    }

    /** Of the period 2, so that each second sample is negative. */
    private static SongRefinery withNote(int amplitude, int length) {
        SongRefinery x = new SongRefinery();
        x.addNote(0, 2, amplitude, length);
        return x;
    }

    private void due(SongRefinery x, char kind, int parameter, String want) {
        x.addFilter(kind, parameter);
        Check.due("" + kind + parameter, samples(x, 0), want);
    }

    private void gains() {
        Check.test(method + ": gain 0 gives 0", () -> due(withNote(999, 2), 'g', 0, "0 0"));
        Check.test(method + ": gain 100 gives the sample", () -> due(withNote(999, 2), 'g', 100, "999 -999"));
        Check.test(method + ": gain 200 gives the sample twice", () -> due(withNote(999, 2), 'g', 200, "1998 -1998"));
        Check.test(method + ": gain divides rounding toward 0", () -> {
            due(withNote(99, 2), 'g', 1, "0 0");
            due(withNote(100, 2), 'g', 1, "1 -1");
            due(withNote(199, 2), 'g', 1, "1 -1");
            due(withNote(1, 2), 'g', 199, "1 -1");
        });
        Check.test(method + ": gain multiplies before it divides", () -> due(withNote(3, 2), 'g', 50, "1 -1"));
        Check.test(method + ": eight gains of 200 of the greatest amplitude", () -> {
            SongRefinery x = withNote(999, 2);
            for (int i = 0; i < 8; i++) {
                x.addFilter('g', 200);
            }
            Check.due("999 times 256", samples(x, 0), "255744 -255744");
        });
    }

    private void delays() {
        for (int p = 1; p <= 8; p++) {
            int parameter = p;
            Check.test(method + ": delay " + p + " gives 0 if it had got fewer than " + p + " samples before", () -> {
                SongRefinery x = withNote(7, 12);
                x.addFilter('d', parameter);
                for (int i = 0; i < 12; i++) {
                    int want = i < parameter ? 0 : (i - parameter) % 2 == 0 ? 7 : -7;
                    Check.due("sample " + i, sampling.get(x, 0, i), want);
                }
            });
        }
        Check.test(method + ": delay 8 of a song of 8 samples, and of 9", () -> {
            due(withNote(7, 8), 'd', 8, "0 0 0 0 0 0 0 0");
            due(withNote(7, 9), 'd', 8, "0 0 0 0 0 0 0 0 7");
        });
        Check.test(method + ": delay 8 up to the last of 160 samples", () -> {
            SongRefinery x = new SongRefinery();
            for (int i = 1; i <= 160; i++) {
                x.addNote(0, 2, i, 1);
            }
            x.addFilter('d', 8);
            for (int i = 0; i < 160; i++) {
                Check.due("sample " + i, sampling.get(x, 0, i), i < 8 ? 0 : i - 7);
            }
        });
    }

    private void means() {
        Check.test(method + ": mean 2 of the first sample, samples that it had not got are 0",
            () -> due(withNote(9, 1), 'm', 2, "4"));
        Check.test(method + ": mean 8 of the first samples, samples that it had not got are 0", () -> {
            SongRefinery x = new SongRefinery();
            x.addNote(0, 20, 8, 10);
            due(x, 'm', 8, "1 2 3 4 5 6 7 8 8 8");
        });
        for (int p = 2; p <= 8; p++) {
            int parameter = p;
            Check.test(method + ": mean " + p + " has the " + (p - 1) + " samples before and no further one", () -> {
                SongRefinery x = new SongRefinery();
                x.addNote(0, 2, 840, 1);
                x.addFilter('m', parameter);
                for (int i = 0; i < 10; i++) {
                    x.addNote(0, 2, 1, 1);
                }
                for (int i = 0; i < 11; i++) {
                    int sum = i < parameter ? 840 + i : parameter;
                    Check.due("sample " + i, sampling.get(x, 0, i), sum / parameter);
                }
            });
        }
        Check.test(method + ": mean divides rounding toward 0", () -> {
            SongRefinery x = new SongRefinery();
            x.addNote(0, 3, 3, 6);
            // 3 -3 -3 3 -3 -3: the sums are 3 0 -3 -3 -3 -3.
            due(x, 'm', 3, "1 0 -1 -1 -1 -1");
            SongRefinery y = new SongRefinery();
            y.addNote(0, 3, 1, 3);
            // 1 -1 -1: the sums are 1 0 -1.
            due(y, 'm', 3, "0 0 0");
            y.removeFilter(0);
            due(y, 'm', 8, "0 0 0");
            SongRefinery z = withNote(5, 1);
            z.addFilter('f', 0);
            due(z, 'm', 2, "-2");
        });
    }

    private void clips() {
        Check.test(method + ": clip gives p if the sample is greater than p, -p if it is less than -p",
            () -> due(withNote(51, 2), 'c', 50, "50 -50"));
        Check.test(method + ": clip gives a sample that is p or -p", () -> due(withNote(50, 2), 'c', 50, "50 -50"));
        Check.test(method + ": clip gives a sample within p and -p", () -> {
            due(withNote(49, 2), 'c', 50, "49 -49");
            SongRefinery silent = withNote(49, 2);
            silent.addFilter('g', 0);
            due(silent, 'c', 50, "0 0");
        });
        Check.test(method + ": clip 1", () -> due(withNote(2, 2), 'c', 1, "1 -1"));
        Check.test(method + ": clip 999", () -> {
            due(withNote(999, 2), 'c', 999, "999 -999");
            SongRefinery x = withNote(500, 2);
            x.addFilter('g', 200);
            due(x, 'c', 999, "999 -999");
        });
    }

    private void flips() {
        Check.test(method + ": flip gives the negative of either sign, and of 0", () -> {
            due(withNote(999, 2), 'f', 0, "-999 999");
            SongRefinery silent = withNote(999, 2);
            silent.addFilter('g', 0);
            due(silent, 'f', 0, "0 0");
        });
        Check.test(method + ": two flips give the sample", () -> {
            SongRefinery x = withNote(1, 2);
            x.addFilter('f', 0);
            due(x, 'f', 0, "1 -1");
        });
    }

    private void steps() {
        Check.test(method + ": step divides rounding toward 0", () -> {
            due(withNote(19, 2), 's', 10, "10 -10");
            due(withNote(9, 2), 's', 10, "0 0");
        });
        Check.test(method + ": step gives a multiple of p as it is", () -> due(withNote(20, 2), 's', 10, "20 -20"));
        Check.test(method + ": step 2", () -> {
            due(withNote(1, 2), 's', 2, "0 0");
            due(withNote(3, 2), 's', 2, "2 -2");
        });
        Check.test(method + ": step 99", () -> {
            due(withNote(98, 2), 's', 99, "0 0");
            due(withNote(99, 2), 's', 99, "99 -99");
            due(withNote(999, 2), 's', 99, "990 -990");
        });
    }

    private void chains() {
        Check.test(method + ": without filters they are the raw samples", () -> {
            SongRefinery x = withNote(999, 3);
            Check.due("never one", samples(x, 0), "999 -999 999");
            x.addFilter('g', 0);
            x.removeFilter(0);
            Check.due("none any more", samples(x, 0), "999 -999 999");
        });
        Check.test(method + ": each further filter gets the samples that the filter before it gives", () -> {
            SongRefinery x = withNote(100, 2);
            x.addFilter('c', 60);
            x.addFilter('g', 50);
            Check.due("clip, then gain", samples(x, 0), "30 -30");
            x.swapFilters(0, 1);
            Check.due("gain, then clip", samples(x, 0), "50 -50");
        });
        Check.test(method + ": the eighth filter is the last", () -> {
            SongRefinery x = withNote(100, 2);
            for (int i = 0; i < 7; i++) {
                x.addFilter('f', 0);
            }
            due(x, 'c', 7, "-7 7");
        });
        Check.test(method + ": eight delays of 8 give the first sample after 64 zeros", () -> {
            SongRefinery x = withNote(5, 40);
            x.addNote(0, 2, 5, 40);
            for (int i = 0; i < 8; i++) {
                x.addFilter('d', 8);
            }
            Check.due("sample 63", sampling.get(x, 0, 63), 0);
            Check.due("sample 64", sampling.get(x, 0, 64), 5);
            Check.due("sample 65", sampling.get(x, 0, 65), -5);
        });
        Check.test(method + ": two filters of the same kind remember each for itself", () -> {
            SongRefinery x = new SongRefinery();
            x.addNote(0, 20, 12, 6);
            x.addFilter('m', 2);
            due(x, 'm', 3, "2 6 10 12 12 12");
        });
    }

    private void songs() {
        Check.test(method + ": for each song all filters start anew", () -> {
            SongRefinery x = new SongRefinery();
            x.addNote(0, 20, 80, 10);
            x.addNote(1, 20, 8, 3);
            x.addFilter('m', 8);
            x.addFilter('d', 1);
            Check.due("the first", samples(x, 0), "0 10 20 30 40 50 60 70 80 80");
            Check.due("the second", samples(x, 1), "0 1 2");
            Check.due("the first again", samples(x, 0), "0 10 20 30 40 50 60 70 80 80");
        });
        Check.test(method + ": the filters go on from one note to the next", () -> {
            SongRefinery x = new SongRefinery();
            x.addNote(0, 20, 4, 2);
            x.addNote(0, 20, 8, 2);
            due(x, 'm', 2, "2 4 6 8");
        });
        Check.test(method + ": a sample does not depend on which was asked for before", () -> {
            SongRefinery x = withNote(9, 20);
            x.addFilter('d', 8);
            Check.due("the last", sampling.get(x, 0, 19), -9);
            Check.due("the first", sampling.get(x, 0, 0), 0);
            Check.due("the ninth", sampling.get(x, 0, 8), 9);
            Check.due("the last again", sampling.get(x, 0, 19), -9);
        });
    }

    private static void bothWays() {
        char[] kinds = {'g', 'd', 'm', 'c', 'f', 's'};
        int[][] limits = {{0, 200}, {1, 8}, {2, 8}, {1, 999}, {0, 0}, {2, 99}};
        for (int i = 0; i < kinds.length; i++) {
            for (int parameter : limits[i]) {
                SongRefinery x = new SongRefinery();
                x.addNote(0, 7, 501, 20);
                x.addNote(0, 3, 998, 3);
                x.addFilter(kinds[i], parameter);
                Check.due("" + kinds[i] + parameter, Look.samples(x, 0), Look.samplesByFilter(x, 0));
            }
        }
    }
}
