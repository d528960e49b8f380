/** The boundary cases that the document names for promises 1 to 8, a test for each sentence. */
final class FilterEdges {
    private static final String KINDS = "gdmcfs";

    private FilterEdges() {
    }

    static void all() {
        newObjects();
        parameters();
        adding();
        inserting();
        removing();
        swapping();
        asking();
    }

    private static SongRefinery withGains(int number) {
        SongRefinery x = new SongRefinery();
        for (int i = 0; i < number; i++) {
            x.addFilter('g', 100 + i);
        }
        return x;
    }

    private static void newObjects() {
        Check.test("1 a new object: an empty chain", () -> {
            SongRefinery x = new SongRefinery();
            Check.due("filterCount", x.filterCount(), 0);
            Check.throwing(Check.IOOBE, "filterKind(0)", () -> x.filterKind(0));
        });
        Check.test("1 a new object: songs without notes", () -> {
            SongRefinery x = new SongRefinery();
            for (int song = 0; song < 4; song++) {
                int number = song;
                Check.due("noteCount of song " + song, x.noteCount(song), 0);
                Check.due("songLength of song " + song, x.songLength(song), 0);
                Check.throwing(Check.NSEE, "removeNote of song " + song, () -> x.removeNote(number));
            }
        });
        Check.test("1 a new object: no tanks", () -> {
            SongRefinery x = new SongRefinery();
            Check.due("tankCount", x.tankCount(), 0);
            Check.throwing(Check.IOOBE, "level(0)", () -> x.level(0));
        });
        Check.test("1 a new object has nothing of another one", () -> {
            String alone = Deep.after(SongRefinery::new);
            String behindAnother = Deep.after(() -> {
                Rich.full().save();
                return new SongRefinery();
            });
            Check.due("all that can be told", behindAnother, alone);
        });
    }

    private interface Adding {
        int put(SongRefinery x, char kind, int parameter);
    }

    private static void range(String method, Adding adding, String sentence, char kind, int least, int greatest) {
        Check.test(method + ": " + sentence, () -> {
            SongRefinery x = new SongRefinery();
            for (int bad : Check.outside(least, greatest)) {
                Check.refused(Check.IAE, kind + " with " + bad, x, () -> adding.put(x, kind, bad));
            }
            Check.due("the least", adding.put(x, kind, least), 1);
            Check.due("is kept", x.filterParameter(0), least);
            Check.due("the greatest", adding.put(x, kind, greatest), 2);
            Check.dueTrue("is kept", x.filterParameter(0) == greatest || x.filterParameter(1) == greatest);
        });
    }

    private static void ranges(String method, Adding adding) {
        range(method, adding, "gain (p from 0 to 200)", 'g', 0, 200);
        range(method, adding, "delay (p from 1 to 8)", 'd', 1, 8);
        range(method, adding, "mean (p from 2 to 8)", 'm', 2, 8);
        range(method, adding, "clip (p from 1 to 999)", 'c', 1, 999);
        range(method, adding, "flip (p must be 0)", 'f', 0, 0);
        range(method, adding, "step (p from 2 to 99)", 's', 2, 99);
        Check.test(method + ": IllegalArgumentException if there is no such kind", () -> {
            for (int code = 0; code <= Character.MAX_VALUE; code++) {
                char kind = (char) code;
                SongRefinery x = new SongRefinery();
                if (KINDS.indexOf(kind) < 0) {
                    Check.throwing(Check.IAE, "kind " + code + " with 2", () -> adding.put(x, kind, 2));
                    Check.throwing(Check.IAE, "kind " + code + " with 0", () -> adding.put(x, kind, 0));
                    Check.due("filterCount", x.filterCount(), 0);
                }
            }
        });
    }

    private static void parameters() {
        ranges("2 addFilter", (x, kind, parameter) -> x.addFilter(kind, parameter));
        ranges("3 insertFilter", (x, kind, parameter) -> x.insertFilter(0, kind, parameter));
    }

    private static void adding() {
        Check.test("2 addFilter: to the end, from the first to the eighth, returns the number", () -> {
            SongRefinery x = new SongRefinery();
            for (int i = 0; i < 8; i++) {
                Check.due("addFilter " + i, x.addFilter('g', i), i + 1);
                Check.due("the last one", x.filterParameter(i), i);
            }
        });
        Check.test("2 addFilter: IllegalStateException if there are 8 filters", () -> {
            SongRefinery x = withGains(8);
            Check.refused(Check.ISE, "the ninth", x, () -> x.addFilter('g', 1));
            Check.refused(Check.ISE, "a ninth flip", x, () -> x.addFilter('f', 0));
        });
        Check.test("2 addFilter: with 7 filters there is room for one", () -> {
            SongRefinery x = withGains(8);
            x.removeFilter(0);
            Check.due("the eighth again", x.addFilter('f', 0), 8);
            Check.refused(Check.ISE, "then none", x, () -> x.addFilter('f', 0));
        });
    }

    private static void inserting() {
        Check.test("3 insertFilter: the position 0 moves all back", () -> {
            SongRefinery x = withGains(7);
            Check.due("insertFilter", x.insertFilter(0, 'f', 0), 8);
            Check.due("chain", Look.chain(x), "f>g100>g101>g102>g103>g104>g105>g106");
        });
        Check.test("3 insertFilter: the position that is the number of filters moves none", () -> {
            SongRefinery x = withGains(7);
            Check.due("insertFilter", x.insertFilter(7, 'f', 0), 8);
            Check.due("chain", Look.chain(x), "g100>g101>g102>g103>g104>g105>g106>f");
        });
        Check.test("3 insertFilter: before the last one", () -> {
            SongRefinery x = withGains(3);
            Check.due("insertFilter", x.insertFilter(2, 'f', 0), 4);
            Check.due("chain", Look.chain(x), "g100>g101>f>g102");
        });
        Check.test("3 insertFilter: into an empty chain", () -> {
            SongRefinery x = new SongRefinery();
            for (int bad : Check.outside(0, 0)) {
                Check.refused(Check.IOOBE, "position " + bad, x, () -> x.insertFilter(bad, 'f', 0));
            }
            Check.due("position 0", x.insertFilter(0, 'f', 0), 1);
        });
        Check.test("3 insertFilter: IndexOutOfBoundsException if the position is negative", () -> {
            SongRefinery x = withGains(3);
            Check.refused(Check.IOOBE, "position -1", x, () -> x.insertFilter(-1, 'f', 0));
            Check.refused(Check.IOOBE, "the lowest", x, () -> x.insertFilter(Integer.MIN_VALUE, 'f', 0));
        });
        Check.test("3 insertFilter: IndexOutOfBoundsException if the position is greater than the number of filters", () -> {
            SongRefinery x = withGains(3);
            Check.refused(Check.IOOBE, "position 4", x, () -> x.insertFilter(4, 'f', 0));
            Check.refused(Check.IOOBE, "the highest", x, () -> x.insertFilter(Integer.MAX_VALUE, 'f', 0));
        });
        Check.test("3 insertFilter: IllegalStateException if there are 8 filters", () -> {
            SongRefinery x = withGains(8);
            Check.refused(Check.ISE, "at the front", x, () -> x.insertFilter(0, 'f', 0));
            Check.refused(Check.ISE, "at the end", x, () -> x.insertFilter(8, 'f', 0));
        });
        Check.test("3 insertFilter: with 8 filters the position 9 is still none", () -> {
            SongRefinery x = withGains(8);
            Check.refused(Check.IOOBE, "position 9", x, () -> x.insertFilter(9, 'f', 0));
        });
    }

    private static void removing() {
        Check.test("4 removeFilter: the first one", () -> {
            SongRefinery x = withGains(8);
            Check.due("removeFilter", x.removeFilter(0), 100);
            Check.due("chain", Look.chain(x), "g101>g102>g103>g104>g105>g106>g107");
        });
        Check.test("4 removeFilter: the last one of 8", () -> {
            SongRefinery x = withGains(8);
            Check.due("removeFilter", x.removeFilter(7), 107);
            Check.due("chain", Look.chain(x), "g100>g101>g102>g103>g104>g105>g106");
        });
        Check.test("4 removeFilter: the only one", () -> {
            SongRefinery x = withGains(1);
            Check.due("removeFilter", x.removeFilter(0), 100);
            Check.due("filterCount", x.filterCount(), 0);
            Check.refused(Check.IOOBE, "once more", x, () -> x.removeFilter(0));
        });
        Check.test("4 removeFilter: the parameter of a flip is 0, of a clip up to 999", () -> {
            SongRefinery x = new SongRefinery();
            x.addFilter('f', 0);
            x.addFilter('c', 999);
            Check.due("the flip", x.removeFilter(0), 0);
            Check.due("the clip", x.removeFilter(0), 999);
        });
        Check.test("4 removeFilter: the kinds behind it move up with their parameters", () -> {
            SongRefinery x = new SongRefinery();
            x.addFilter('g', 8);
            x.addFilter('d', 7);
            x.addFilter('f', 0);
            x.addFilter('m', 6);
            x.addFilter('s', 5);
            x.removeFilter(1);
            Check.due("chain", Look.chain(x), "g8>f>m6>s5");
        });
        noPosition("4 removeFilter", (x, position) -> x.removeFilter(position));
    }

    private static void swapping() {
        Check.test("5 swapFilters: 0 for the same, the chain stays", () -> {
            SongRefinery x = withGains(8);
            for (int i = 0; i < 8; i++) {
                Check.due("swapFilters", x.swapFilters(i, i), 0);
            }
            Check.due("chain", Look.chain(x), "g100>g101>g102>g103>g104>g105>g106>g107");
        });
        Check.test("5 swapFilters: 0 for neighbours, in either order", () -> {
            SongRefinery x = withGains(8);
            Check.due("the first two", x.swapFilters(0, 1), 0);
            Check.due("the last two", x.swapFilters(7, 6), 0);
            Check.due("chain", Look.chain(x), "g101>g100>g102>g103>g104>g105>g107>g106");
        });
        Check.test("5 swapFilters: the positions between the first and the last", () -> {
            SongRefinery x = withGains(8);
            Check.due("swapFilters", x.swapFilters(0, 7), 6);
            Check.due("chain", Look.chain(x), "g107>g101>g102>g103>g104>g105>g106>g100");
            Check.due("the other way round", x.swapFilters(7, 0), 6);
            Check.due("one between", x.swapFilters(2, 4), 1);
            Check.due("one between, the other way round", x.swapFilters(4, 2), 1);
        });
        Check.test("5 swapFilters: kinds and parameters go together", () -> {
            SongRefinery x = new SongRefinery();
            x.addFilter('f', 0);
            x.addFilter('c', 999);
            x.swapFilters(0, 1);
            Check.due("chain", Look.chain(x), "c999>f");
        });
        noPosition("5 swapFilters, the first one", (x, position) -> x.swapFilters(position, 0));
        noPosition("5 swapFilters, the second one", (x, position) -> x.swapFilters(0, position));
        noPosition("5 swapFilters, both", (x, position) -> x.swapFilters(position, position));
    }

    private interface AtPosition {
        void call(SongRefinery x, int position);
    }

    private static void noPosition(String method, AtPosition at) {
        for (int count : new int[] {0, 1, 3, 8}) {
            Check.test(method + ": IndexOutOfBoundsException if there is no such position, with " + count + " filters", () -> {
                SongRefinery x = withGains(count);
                for (int bad : Check.outside(0, count - 1)) {
                    Check.refused(Check.IOOBE, "position " + bad, x, () -> at.call(x, bad));
                }
            });
        }
        Check.test(method + ": IndexOutOfBoundsException for the position of a filter that was removed", () -> {
            SongRefinery x = withGains(3);
            x.removeFilter(0);
            Check.refused(Check.IOOBE, "position 2", x, () -> at.call(x, 2));
            at.call(x, 1);
        });
    }

    private static void asking() {
        Check.test("6 filterCount: from 0 to 8 and back to 0", () -> {
            SongRefinery x = new SongRefinery();
            for (int i = 0; i < 8; i++) {
                Check.due("filterCount", x.filterCount(), i);
                x.addFilter('f', 0);
            }
            for (int i = 8; i > 0; i--) {
                Check.due("filterCount", x.filterCount(), i);
                x.removeFilter(0);
            }
            Check.due("filterCount", x.filterCount(), 0);
        });
        Check.test("7 filterKind: at each position of a full chain", () -> {
            SongRefinery x = new SongRefinery();
            for (int i = 0; i < 8; i++) {
                char kind = KINDS.charAt(i % 6);
                x.addFilter(kind, kind == 'f' ? 0 : 2);
            }
            for (int i = 0; i < 8; i++) {
                Check.due("filterKind(" + i + ")", x.filterKind(i), KINDS.charAt(i % 6));
            }
        });
        noPosition("7 filterKind", (x, position) -> x.filterKind(position));
        Check.test("8 filterParameter: at each position of a full chain", () -> {
            SongRefinery x = withGains(8);
            for (int i = 0; i < 8; i++) {
                Check.due("filterParameter(" + i + ")", x.filterParameter(i), 100 + i);
            }
        });
        Check.test("8 filterParameter: 0 of a flip", () -> {
            SongRefinery x = withGains(1);
            x.removeFilter(0);
            x.addFilter('f', 0);
            Check.due("filterParameter", x.filterParameter(0), 0);
        });
        noPosition("8 filterParameter", (x, position) -> x.filterParameter(position));
    }
}
