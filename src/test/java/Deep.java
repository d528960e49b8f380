/** Everything that a refinery can tell, also what only further calls show; each such call gets an object of its own. */
final class Deep {
    interface Maker {
        SongRefinery make();
    }

    interface Call {
        void on(SongRefinery x);
    }

    private Deep() {
    }

    static String after(Maker maker) {
        return after(maker, x -> { });
    }

    /** What a refinery tells after a call, whether the call throws or not. */
    static String after(Maker maker, Call call) {
        return "asked: " + still(called(maker, call)) + "\nroom of the text: " + textRoom(called(maker, call))
            + "\nrun: " + ran(called(maker, call)) + "\nundone: " + undone(called(maker, call))
            + "\nrestored: " + restored(called(maker, call));
    }

    private static SongRefinery called(Maker maker, Call call) {
        SongRefinery x = maker.make();
        try {
            call.on(x);
        } catch (RuntimeException thrown) {
            // What it throws is looked at elsewhere; here it is what it leaves behind.
            return x;
        }
        return x;
    }

    private static String still(SongRefinery x) {
        StringBuilder text = new StringBuilder(Look.at(x));
        text.append("|line \"").append(line(x)).append("\"|error ").append(told(x::errorPosition));
        return text.append("|failed ").append(told(x::failedCommand)).toString();
    }

    private interface Number {
        int get();
    }

    private static String told(Number number) {
        try {
            return "" + number.get();
        } catch (RuntimeException thrown) {
            return thrown.getClass().getSimpleName();
        }
    }

    private static String line(SongRefinery x) {
        StringBuilder text = new StringBuilder();
        for (int i = 0; i < 100; i++) {
            try {
                text.append(x.lineAt(i));
            } catch (IndexOutOfBoundsException thrown) {
                return text.toString();
            }
        }
        return text.toString();
    }

    private static String textRoom(SongRefinery x) {
        return told(() -> x.append(' '));
    }

    private static String ran(SongRefinery x) {
        return told(x::run) + " " + still(x);
    }

    private static String undone(SongRefinery x) {
        StringBuilder text = new StringBuilder();
        for (int i = 1; i <= 9; i++) {
            text.append(' ').append(told(x::undo));
            // Not each time: an object may be used for 512 calls alone.
            if (i % 3 == 1) {
                text.append(' ').append(Look.at(x));
            }
        }
        return text.append(' ').append(Look.at(x)).toString();
    }

    private static String restored(SongRefinery x) {
        return told(x::restore) + " " + still(x);
    }
}
