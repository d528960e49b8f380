import java.util.NoSuchElementException;

/** Promises 21 to 36, with what the document's terms say of frames and tanks. */
final class TankTests {
    private static final Class<IllegalArgumentException> IAE = IllegalArgumentException.class;
    private static final Class<IllegalStateException> ISE = IllegalStateException.class;
    private static final Class<IndexOutOfBoundsException> IOOBE = IndexOutOfBoundsException.class;
    private static final Class<NoSuchElementException> NSEE = NoSuchElementException.class;

    private TankTests() {
    }

    static void all() {
        Check.test("21 addTank", TankTests::addTank);
        Check.test("22 setTuning", TankTests::setTuning);
        Check.test("23 pour: the most room, then the lowest number", TankTests::pourByRoom);
        Check.test("23 pour: tunings", TankTests::pourByTuning);
        Check.test("23 pour: frames and their loudness", TankTests::pourFrames);
        Check.test("23 pour: refusals", TankTests::pourRefusals);
        Check.test("24 drain", TankTests::drain);
        Check.test("24 drain: refusals in their order", TankTests::drainRefusals);
        Check.test("25 tankCount", TankTests::tankCount);
        Check.test("26 capacity", TankTests::capacity);
        Check.test("27 tuning", TankTests::tuning);
        Check.test("28 level", TankTests::level);
        Check.test("29 frameLoudness", TankTests::frameLoudness);
        Check.test("30 frameCount", TankTests::frameCount);
        Check.test("31 dropsFor", TankTests::dropsFor);
        Check.test("32 dropsByLevels", TankTests::dropsByLevels);
        Check.test("33 tankAtRank", TankTests::tankAtRank);
        Check.test("34 storedTotal", TankTests::storedTotal);
        Check.test("35 droppedTotal", TankTests::droppedTotal);
        Check.test("36 drainedTotal", TankTests::drainedTotal);
    }

    private static SongRefinery withTanks(int... capacities) {
        SongRefinery x = new SongRefinery();
        for (int capacity : capacities) {
            x.addTank(capacity);
        }
        return x;
    }

    /** A frame of 8 samples for each amplitude. */
    private static void frames(SongRefinery x, int song, int... amplitudes) {
        for (int amplitude : amplitudes) {
            x.addNote(song, 3, amplitude, 8);
        }
    }

    private static void addTank() {
        SongRefinery x = new SongRefinery();
        Check.refused(IAE, "capacity 0", x, () -> x.addTank(0));
        Check.refused(IAE, "capacity 10", x, () -> x.addTank(10));
        Check.refused(IAE, "capacity -1", x, () -> x.addTank(-1));
        Check.due("the first", x.addTank(1), 0);
        Check.due("the second", x.addTank(9), 1);
        Check.due("the third", x.addTank(5), 2);
        Check.due("the fourth", x.addTank(5), 3);
        Check.due("the second is empty", Look.tank(x, 1), "0/9");
        Check.refused(ISE, "the fifth", x, () -> x.addTank(5));
        Check.refused(IAE, "a wrong fifth", x, () -> x.addTank(10));
        SongRefinery again = withTanks(2);
        frames(again, 0, 5);
        again.pour(0);
        again.setTuning(0, 7);
        Look.run(again, "drain 0 1");
        for (int i = 0; i < 5; i++) {
            again.undo();
        }
        Check.due("a tank in the place of an undone one", again.addTank(3), 0);
        Check.due("it is new", Look.tank(again, 0), "0/3");
    }

    private static void setTuning() {
        SongRefinery x = withTanks(3, 3);
        frames(x, 0, 50, 50, 50, 50);
        x.pour(0);
        Check.due("the first previous one", x.setTuning(1, 10), 9999);
        Check.due("the next previous one", x.setTuning(1, 0), 10);
        Check.due("back to the greatest", x.setTuning(1, 9999), 0);
        x.setTuning(1, 0);
        Check.due("the frames stay", Look.tank(x, 1), "2/3@0 50 50");
        Check.due("the other stays", x.tuning(0), 9999);
        Check.refused(IAE, "tuning -1", x, () -> x.setTuning(1, -1));
        Check.refused(IAE, "tuning 10000", x, () -> x.setTuning(1, 10000));
        Check.refused(IOOBE, "tank 2", x, () -> x.setTuning(2, 5));
        Check.refused(IOOBE, "tank -1 and a wrong tuning", x, () -> x.setTuning(-1, -1));
    }

    private static void pourByRoom() {
        SongRefinery x = withTanks(2, 4, 2, 3);
        frames(x, 0, 1, 2, 3, 4, 5, 6, 7);
        Check.due("stored", x.pour(0), 7);
        // The rooms go 2 4 2 3, 2 3 2 3, 2 2 2 3, 2 2 2 2, 1 2 2 2, 1 1 2 2, 1 1 1 2, 1 1 1 1.
        Check.due("tank 0", Look.tank(x, 0), "1/2 4");
        Check.due("tank 1", Look.tank(x, 1), "3/4 1 2 5");
        Check.due("tank 2", Look.tank(x, 2), "1/2 6");
        Check.due("tank 3", Look.tank(x, 3), "2/3 3 7");
        Check.due("the next fill all", x.pour(0), 4);
        Check.due("tank 0", Look.tank(x, 0), "2/2 4 1");
        Check.due("tank 3", Look.tank(x, 3), "3/3 3 7 4");
        Check.due("then none", x.pour(0), 0);
        Check.due("dropped", x.droppedTotal(), 10);
    }

    private static void pourByTuning() {
        SongRefinery x = withTanks(9, 2);
        x.setTuning(0, 50);
        frames(x, 1, 50, 51, 50, 51, 999, 51);
        Check.due("stored", x.pour(1), 4);
        Check.due("tank 0", Look.tank(x, 0), "2/9@50 50 50");
        Check.due("tank 1", Look.tank(x, 1), "2/2 51 51");
        x.setTuning(0, 0);
        x.addFilter('g', 0);
        Check.due("silent frames into tuning 0", x.pour(1), 6);
        x.removeFilter(0);
        for (int i = 0; i < 4; i++) {
            x.addFilter('g', 200);
        }
        x.addTank(9);
        SongRefinery loud = withTanks(9);
        frames(loud, 0, 624, 625);
        for (int i = 0; i < 4; i++) {
            loud.addFilter('g', 200);
        }
        Check.due("louder than each tuning", loud.pour(0), 1);
        Check.due("the loudest stored", loud.frameLoudness(0, 0), 9984);
    }

    private static void pourFrames() {
        SongRefinery x = withTanks(9);
        x.addNote(0, 20, 5, 7);
        x.addNote(0, 20, 80, 1);
        x.addNote(0, 20, 7, 8);
        x.addNote(0, 2, 3, 1);
        Check.due("two frames and a sample", x.pour(0), 3);
        Check.due("the loudness", Look.tank(x, 0), "3/9 80 7 3");
        x.addFilter('f', 0);
        x.addFilter('g', 50);
        x.removeNote(0);
        Check.due("two frames, filtered", x.pour(0), 2);
        Check.due("the stored ones stay", Look.tank(x, 0), "5/9 80 7 3 40 3");
    }

    private static void pourRefusals() {
        SongRefinery x = withTanks(1);
        Check.refused(NSEE, "no notes", x, () -> x.pour(0));
        Check.refused(IOOBE, "song 4", x, () -> x.pour(4));
        Check.refused(IOOBE, "song -1", x, () -> x.pour(-1));
        SongRefinery none = new SongRefinery();
        frames(none, 0, 5, 6);
        Check.due("without tanks", none.pour(0), 0);
        Check.due("all dropped", none.droppedTotal(), 2);
    }

    private static void drain() {
        SongRefinery x = withTanks(6);
        frames(x, 0, 10, 40, 30, 20, 60, 50);
        x.pour(0);
        Check.due("the oldest", x.drain(0, 1), 10);
        Check.due("the next two", x.drain(0, 2), 40);
        Check.due("those that stay", Look.tank(x, 0), "3/6 20 60 50");
        Check.due("drained", x.drainedTotal(), 3);
        Check.due("further ones", x.pour(0), 3);
        Check.due("behind those", Look.tank(x, 0), "6/6 20 60 50 10 40 30");
        Check.due("all", x.drain(0, 6), 60);
        Check.due("empty", Look.tank(x, 0), "0/6");
        x.addFilter('g', 0);
        x.pour(0);
        Check.due("silent frames", x.drain(0, 6), 0);
    }

    private static void drainRefusals() {
        SongRefinery x = withTanks(9);
        Check.refused(NSEE, "empty", x, () -> x.drain(0, 1));
        frames(x, 0, 10, 40);
        x.pour(0);
        Check.refused(NSEE, "more than there are", x, () -> x.drain(0, 3));
        Check.refused(NSEE, "nine", x, () -> x.drain(0, 9));
        Check.refused(IAE, "no frames", x, () -> x.drain(0, 0));
        Check.refused(IAE, "ten frames", x, () -> x.drain(0, 10));
        Check.refused(IAE, "negative frames", x, () -> x.drain(0, -1));
        Check.refused(IOOBE, "tank 1", x, () -> x.drain(1, 1));
        Check.refused(IOOBE, "tank -1, no frames", x, () -> x.drain(-1, 0));
    }

    private static void tankCount() {
        Check.due("none", new SongRefinery().tankCount(), 0);
        Check.due("three", withTanks(1, 2, 3).tankCount(), 3);
    }

    private static void capacity() {
        SongRefinery x = withTanks(1, 9);
        Check.due("tank 0", x.capacity(0), 1);
        Check.due("tank 1", x.capacity(1), 9);
        Check.throwing(IOOBE, "tank 2", () -> x.capacity(2));
        Check.throwing(IOOBE, "tank -1", () -> x.capacity(-1));
    }

    private static void tuning() {
        SongRefinery x = withTanks(1, 9);
        Check.due("at first", x.tuning(0), 9999);
        x.setTuning(0, 77);
        Check.due("set", x.tuning(0), 77);
        Check.due("the other", x.tuning(1), 9999);
        Check.throwing(IOOBE, "tank 2", () -> x.tuning(2));
        Check.throwing(IOOBE, "tank -1", () -> x.tuning(-1));
    }

    private static void level() {
        SongRefinery x = withTanks(1, 9);
        Check.due("at first", x.level(1), 0);
        frames(x, 0, 5, 6, 7);
        x.pour(0);
        Check.due("poured", x.level(1), 3);
        x.drain(1, 2);
        Check.due("drained", x.level(1), 1);
        Check.due("the other", x.level(0), 0);
        Check.throwing(IOOBE, "tank 2", () -> x.level(2));
        Check.throwing(IOOBE, "tank -1", () -> x.level(-1));
    }

    private static void frameLoudness() {
        SongRefinery x = withTanks(9, 8);
        frames(x, 0, 5, 6, 7);
        x.pour(0);
        Check.due("the oldest", x.frameLoudness(0, 0), 5);
        Check.due("the youngest", x.frameLoudness(0, 1), 6);
        Check.due("the other tank's", x.frameLoudness(1, 0), 7);
        x.drain(0, 1);
        Check.due("the oldest now", x.frameLoudness(0, 0), 6);
        Check.throwing(NSEE, "behind", () -> x.frameLoudness(0, 1));
        Check.throwing(NSEE, "before", () -> x.frameLoudness(0, -1));
        Check.throwing(NSEE, "far behind", () -> x.frameLoudness(1, Integer.MAX_VALUE));
        Check.throwing(IOOBE, "tank 2", () -> x.frameLoudness(2, 0));
        Check.throwing(IOOBE, "tank -1", () -> x.frameLoudness(-1, -1));
    }

    private static void frameCount() {
        SongRefinery x = new SongRefinery();
        Check.due("no notes", x.frameCount(0), 0);
        x.addNote(0, 2, 1, 1);
        Check.due("1 sample", x.frameCount(0), 1);
        x.addNote(0, 2, 1, 7);
        Check.due("8 samples", x.frameCount(0), 1);
        x.addNote(0, 2, 1, 1);
        Check.due("9 samples", x.frameCount(0), 2);
        for (int i = 0; i < 4; i++) {
            x.addNote(1, 2, 1, 40);
        }
        Check.due("160 samples", x.frameCount(1), 20);
        Check.throwing(IOOBE, "song 4", () -> x.frameCount(4));
        Check.throwing(IOOBE, "song -1", () -> x.frameCount(-1));
    }

    private interface Drops {
        int of(SongRefinery x, int song);
    }

    private static void drops(Drops drops) {
        SongRefinery x = withTanks(3, 2);
        Check.due("no notes", drops.of(x, 0), 0);
        frames(x, 0, 10, 90, 20, 90, 90, 30);
        Check.due("too many", drops.of(x, 0), 1);
        x.setTuning(0, 50);
        // The quiet ones go into tank 0 and then, at equal rooms, too.
        Check.due("too loud", drops.of(x, 0), 1);
        x.setTuning(1, 50);
        Check.due("all the loud ones", drops.of(x, 0), 3);
        String before = Look.at(x);
        drops.of(x, 0);
        Check.due("nothing was poured", Look.at(x), before);
        Check.due("then poured", x.pour(0), 3);
        Check.due("what is left", drops.of(x, 0), 4);
        x.addFilter('c', 1);
        Check.due("filtered", drops.of(x, 0), 4);
        x.drain(0, 1);
        Check.due("drained", drops.of(x, 0), 3);
        frames(x, 1, 10, 90, 90);
        Check.due("another song", drops.of(x, 1), 0);
        Check.throwing(IOOBE, "song 4", () -> drops.of(x, 4));
        Check.throwing(IOOBE, "song -1", () -> drops.of(x, -1));
        SongRefinery none = new SongRefinery();
        frames(none, 3, 1, 2);
        Check.due("without tanks", drops.of(none, 3), 2);
        // A quiet frame takes the room of the only tank for loud ones.
        SongRefinery greedy = withTanks(2, 1);
        greedy.setTuning(1, 50);
        frames(greedy, 0, 10, 10, 90, 90);
        Check.due("quiet frames first", drops.of(greedy, 0), 2);
        SongRefinery exact = withTanks(3);
        exact.setTuning(0, 50);
        frames(exact, 0, 49, 50, 51);
        Check.due("as loud as the tuning", drops.of(exact, 0), 1);
    }

    private static void dropsFor() {
        drops(SongRefinery::dropsFor);
    }

    private static void dropsByLevels() {
        drops(SongRefinery::dropsByLevels);
    }

    private static String ranks(SongRefinery x) {
        StringBuilder text = new StringBuilder();
        for (int rank = 0; rank < x.tankCount(); rank++) {
            text.append(x.tankAtRank(rank));
        }
        return text.toString();
    }

    private static void tankAtRank() {
        SongRefinery x = new SongRefinery();
        Check.throwing(NSEE, "no tanks", () -> x.tankAtRank(0));
        SongRefinery y = withTanks(5, 3, 5, 2);
        Check.due("by capacity, then by number", ranks(y), "3102");
        frames(y, 0, 1, 2, 3);
        y.pour(0);
        // Levels 2 0 1 0.
        Check.due("by level", ranks(y), "0231");
        y.drain(0, 1);
        Check.due("equal levels and capacities", ranks(y), "0231");
        Check.throwing(NSEE, "behind", () -> y.tankAtRank(4));
        Check.throwing(NSEE, "before", () -> y.tankAtRank(-1));
    }

    private static void storedTotal() {
        SongRefinery x = withTanks(4);
        frames(x, 0, 1, 2, 3);
        x.pour(0);
        Check.due("all", x.storedTotal(), 3);
        x.drain(0, 2);
        Check.due("draining takes none away", x.storedTotal(), 3);
        x.pour(0);
        Check.due("further ones", x.storedTotal(), 6);
        x.pour(0);
        Check.due("none more", x.storedTotal(), 6);
    }

    private static void droppedTotal() {
        SongRefinery x = withTanks(4);
        frames(x, 0, 1, 2, 3);
        x.pour(0);
        Check.due("none", x.droppedTotal(), 0);
        x.dropsFor(0);
        x.pour(0);
        Check.due("two", x.droppedTotal(), 2);
        x.pour(0);
        Check.due("three more", x.droppedTotal(), 5);
    }

    private static void drainedTotal() {
        SongRefinery x = withTanks(4, 4);
        frames(x, 0, 1, 2, 3, 4, 5);
        x.pour(0);
        Check.due("none", x.drainedTotal(), 0);
        x.drain(0, 2);
        x.drain(1, 1);
        Check.due("of both tanks", x.drainedTotal(), 3);
    }
}
