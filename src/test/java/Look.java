/** Writes down what a refinery answers, without touching its line. */
final class Look {
    private Look() {
    }

    static String at(SongRefinery x) {
        StringBuilder text = new StringBuilder();
        for (int i = 0; i < x.filterCount(); i++) {
            text.append(x.filterKind(i)).append(x.filterParameter(i)).append('>');
        }
        for (int song = 0; song < 4; song++) {
            text.append("|notes ").append(x.noteCount(song)).append(" samples ").append(x.songLength(song))
                .append(" energy ").append(x.energy(song));
        }
        for (int tank = 0; tank < x.tankCount(); tank++) {
            text.append("|").append(tankAt(x, tank));
        }
        text.append("|").append(x.storedTotal()).append(' ').append(x.droppedTotal()).append(' ').append(x.drainedTotal());
        return text.toString();
    }

    private static String tankAt(SongRefinery x, int tank) {
        StringBuilder text = new StringBuilder();
        text.append(x.level(tank)).append('/').append(x.capacity(tank)).append('@').append(x.tuning(tank));
        for (int age = 0; age < x.level(tank); age++) {
            text.append(' ').append(x.frameLoudness(tank, age));
        }
        return text.toString();
    }

    static String line(SongRefinery x, int length) {
        StringBuilder text = new StringBuilder();
        for (int i = 0; i < length; i++) {
            text.append(x.lineAt(i));
        }
        return text.toString();
    }

    static String chain(SongRefinery x) {
        return line(x, x.describeChain());
    }

    static String tank(SongRefinery x, int tank) {
        return line(x, x.describeTank(tank));
    }

    static String samples(SongRefinery x, int song) {
        StringBuilder text = new StringBuilder();
        for (int i = 0; i < x.songLength(song); i++) {
            text.append(i == 0 ? "" : " ").append(x.sample(song, i));
        }
        return text.toString();
    }

    static String samplesByFilter(SongRefinery x, int song) {
        StringBuilder text = new StringBuilder();
        for (int i = 0; i < x.songLength(song); i++) {
            text.append(i == 0 ? "" : " ").append(x.sampleByFilter(song, i));
        }
        return text.toString();
    }

    static String rawSamples(SongRefinery x, int song) {
        StringBuilder text = new StringBuilder();
        for (int i = 0; i < x.songLength(song); i++) {
            text.append(i == 0 ? "" : " ").append(x.rawSample(song, i));
        }
        return text.toString();
    }

    static void type(SongRefinery x, String text) {
        for (int i = 0; i < text.length(); i++) {
            x.append(text.charAt(i));
        }
    }

    static int run(SongRefinery x, String text) {
        type(x, text);
        return x.run();
    }
}
