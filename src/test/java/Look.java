/** Writes down what a refinery answers, without touching its line. */
final class Look {
    private Look() {
    }

    static String at(SongRefinery x) {
        StringBuilder text = new StringBuilder();
        // The counts are asked for once: an object may be used for 512 calls alone.
        int filters = x.filterCount();
        for (int i = 0; i < filters; i++) {
            text.append(x.filterKind(i)).append(x.filterParameter(i)).append('>');
        }
        for (int song = 0; song < 4; song++) {
            text.append("|notes ").append(x.noteCount(song)).append(" samples ").append(x.songLength(song))
                .append(" energy ").append(x.energy(song));
        }
        int tanks = x.tankCount();
        for (int tank = 0; tank < tanks; tank++) {
            text.append("|").append(tankAt(x, tank));
        }
        text.append("|").append(x.storedTotal()).append(' ').append(x.droppedTotal()).append(' ').append(x.drainedTotal());
        return text.toString();
    }

    private static String tankAt(SongRefinery x, int tank) {
        StringBuilder text = new StringBuilder();
        int level = x.level(tank);
        text.append(level).append('/').append(x.capacity(tank)).append('@').append(x.tuning(tank));
        for (int age = 0; age < level; age++) {
            text.append(' ').append(x.frameLoudness(tank, age));
        }
        return text.toString();
    }

    static String line(SongRefinery x, int length) {
        StringBuilder text = new StringBuilder();
        for (int i = 0; i < length; i++) {
            text.append(x.lineAt(i));
        }
        return text.toString();
    }

    static String chain(SongRefinery x) {
        return line(x, x.describeChain());
    }

    static String tank(SongRefinery x, int tank) {
        return line(x, x.describeTank(tank));
    }

    static String samples(SongRefinery x, int song) {
        StringBuilder text = new StringBuilder();
        int length = x.songLength(song);
        for (int i = 0; i < length; i++) {
            text.append(i == 0 ? "" : " ").append(x.sample(song, i));
        }
        return text.toString();
    }

    static String samplesByFilter(SongRefinery x, int song) {
        StringBuilder text = new StringBuilder();
        int length = x.songLength(song);
        for (int i = 0; i < length; i++) {
            text.append(i == 0 ? "" : " ").append(x.sampleByFilter(song, i));
        }
        return text.toString();
    }

    static String rawSamples(SongRefinery x, int song) {
        StringBuilder text = new StringBuilder();
        int length = x.songLength(song);
        for (int i = 0; i < length; i++) {
            text.append(i == 0 ? "" : " ").append(x.rawSample(song, i));
        }
        return text.toString();
    }

    static void type(SongRefinery x, String text) {
        for (int i = 0; i < text.length(); i++) {
            x.append(text.charAt(i));
        }
    }

    static int run(SongRefinery x, String text) {
        type(x, text);
        return x.run();
    }
}
