/** The boundary cases that the document names for promises 21 to 36, a test for each sentence. */
final class TankEdges {
    private TankEdges() {
    }

    static void all() {
        adding();
        addingAgain();
        tankNumbers();
        tuning();
        accepting();
        choosing();
        pouring();
        framing();
        draining();
        asking();
        drops("31 dropsFor", SongRefinery::dropsFor);
        drops("32 dropsByLevels", SongRefinery::dropsByLevels);
        ranking();
        totals();
    }

    private static SongRefinery withTanks(int... capacities) {
        SongRefinery x = new SongRefinery();
        for (int capacity : capacities) {
            x.addTank(capacity);
        }
        return x;
    }

    /** A frame of 8 samples for each loudness. */
    private static void frames(SongRefinery x, int song, int... loudnesses) {
        for (int loudness : loudnesses) {
            x.addNote(song, 3, loudness, 8);
        }
    }

    private static String tanks(SongRefinery x) {
        StringBuilder text = new StringBuilder();
        int count = x.tankCount();
        for (int tank = 0; tank < count; tank++) {
            text.append(tank == 0 ? "" : ", ").append(Look.tank(x, tank));
        }
        return text.toString();
    }

    private static void adding() {
        Check.test("21 addTank: IllegalArgumentException if the capacity is too small", () -> {
            SongRefinery x = withTanks(3);
            Check.refused(Check.IAE, "0", x, () -> x.addTank(0));
            Check.refused(Check.IAE, "-1", x, () -> x.addTank(-1));
            Check.refused(Check.IAE, "the lowest", x, () -> x.addTank(Integer.MIN_VALUE));
        });
        Check.test("21 addTank: IllegalArgumentException if the capacity is too large", () -> {
            SongRefinery x = withTanks(3);
            Check.refused(Check.IAE, "10", x, () -> x.addTank(10));
            Check.refused(Check.IAE, "the highest", x, () -> x.addTank(Integer.MAX_VALUE));
        });
        Check.test("21 addTank: the capacities 1 and 9", () -> {
            SongRefinery x = withTanks(1, 9);
            Check.due("the least", x.capacity(0), 1);
            Check.due("the greatest", x.capacity(1), 9);
        });
        Check.test("21 addTank: tanks are numbered from 0", () -> {
            SongRefinery x = new SongRefinery();
            for (int tank = 0; tank < 4; tank++) {
                Check.due("addTank", x.addTank(5), tank);
            }
        });
        Check.test("21 addTank: IllegalStateException if there are 4 tanks", () -> {
            SongRefinery x = withTanks(1, 2, 3, 4);
            Check.refused(Check.ISE, "the fifth", x, () -> x.addTank(5));
        });
        Check.test("21 addTank: an empty tank, its tuning is 9999", () -> {
            SongRefinery x = withTanks(4);
            x.setTuning(0, 5);
            frames(x, 0, 4);
            x.pour(0);
            x.addTank(4);
            Check.due("tanks", tanks(x), "1/4@5 4, 0/4");
            Check.due("tuning", x.tuning(1), 9999);
        });
    }

    private static void addingAgain() {
        Check.test("21 addTank: an empty tank, also in the place of one with frames that was undone", () -> {
            SongRefinery x = withTanks(4);
            frames(x, 0, 5, 6);
            x.setTuning(0, 70);
            x.pour(0);
            for (int i = 0; i < 5; i++) {
                x.undo();
            }
            Check.due("addTank", x.addTank(3), 0);
            Check.due("tanks", tanks(x), "0/3");
        });
    }

    private interface OfTank {
        void call(SongRefinery x, int tank);
    }

    private static void tankNumber(String method, OfTank of) {
        for (int count = 0; count <= 4; count++) {
            int tanks = count;
            Check.test(method + ": IndexOutOfBoundsException if there is no such tank, with " + count + " tanks", () -> {
                SongRefinery x = withFilledTanks(tanks);
                for (int bad : Check.outside(0, tanks - 1)) {
                    Check.refused(Check.IOOBE, "tank " + bad, x, () -> of.call(x, bad));
                }
                for (int tank = 0; tank < tanks; tank++) {
                    of.call(x, tank);
                }
            });
        }
    }

    private static SongRefinery withFilledTanks(int tanks) {
        SongRefinery x = new SongRefinery();
        frames(x, 0, 3, 4, 5, 6);
        for (int tank = 0; tank < tanks; tank++) {
            x.addTank(4);
        }
        x.pour(0);
        return x;
    }

    private static void tankNumbers() {
        tankNumber("22 setTuning", (x, tank) -> x.setTuning(tank, 5));
        tankNumber("24 drain", (x, tank) -> x.drain(tank, 1));
        tankNumber("26 capacity", (x, tank) -> x.capacity(tank));
        tankNumber("27 tuning", (x, tank) -> x.tuning(tank));
        tankNumber("28 level", (x, tank) -> x.level(tank));
        tankNumber("29 frameLoudness", (x, tank) -> x.frameLoudness(tank, 0));
        tankNumber("42 describeTank", (x, tank) -> x.describeTank(tank));
    }

    private static void tuning() {
        Check.test("22 setTuning: IllegalArgumentException if the tuning is too small", () -> {
            SongRefinery x = withTanks(3);
            Check.refused(Check.IAE, "-1", x, () -> x.setTuning(0, -1));
            Check.refused(Check.IAE, "the lowest", x, () -> x.setTuning(0, Integer.MIN_VALUE));
        });
        Check.test("22 setTuning: IllegalArgumentException if the tuning is too large", () -> {
            SongRefinery x = withTanks(3);
            Check.refused(Check.IAE, "10000", x, () -> x.setTuning(0, 10000));
            Check.refused(Check.IAE, "the highest", x, () -> x.setTuning(0, Integer.MAX_VALUE));
        });
        Check.test("22 setTuning: the tunings 0 and 9999, returns the previous one", () -> {
            SongRefinery x = withTanks(3);
            Check.due("the initial one", x.setTuning(0, 0), 9999);
            Check.due("the least", x.setTuning(0, 9999), 0);
            Check.due("the greatest", x.setTuning(0, 9999), 9999);
        });
        Check.test("22 setTuning: frames that are in it stay, also if they are louder", () -> {
            SongRefinery x = withTanks(3);
            frames(x, 0, 30, 20);
            x.pour(0);
            x.setTuning(0, 0);
            Check.due("tank", Look.tank(x, 0), "2/3@0 30 20");
        });
        Check.test("27 tuning: initially 9999", () -> {
            SongRefinery x = withTanks(1, 1, 1, 1);
            for (int tank = 0; tank < 4; tank++) {
                Check.due("tuning", x.tuning(tank), 9999);
            }
        });
    }

    private static void accepting() {
        Check.test("23 pour: a tank accepts a frame if its level is less than its capacity", () -> {
            SongRefinery x = withTanks(2);
            frames(x, 0, 5);
            Check.due("an empty one", x.pour(0), 1);
            Check.due("one with room for one", x.pour(0), 1);
            Check.due("a full one", x.pour(0), 0);
        });
        Check.test("23 pour: a full tank of capacity 1, and of capacity 9", () -> {
            SongRefinery x = withTanks(1);
            frames(x, 0, 1, 2, 3, 4, 5, 6, 7, 8, 9, 10);
            Check.due("capacity 1", x.pour(0), 1);
            SongRefinery y = withTanks(9);
            frames(y, 0, 1, 2, 3, 4, 5, 6, 7, 8, 9, 10);
            Check.due("capacity 9", y.pour(0), 9);
            Check.due("tank", Look.tank(y, 0), "9/9 1 2 3 4 5 6 7 8 9");
        });
        Check.test("23 pour: a tank accepts a frame whose loudness is the tuning, none that is louder by 1", () -> {
            SongRefinery x = withTanks(9);
            x.setTuning(0, 50);
            frames(x, 0, 49, 50, 51);
            Check.due("pour", x.pour(0), 2);
            Check.due("tank", Look.tank(x, 0), "2/9@50 49 50");
        });
        Check.test("23 pour: the tuning 0 accepts frames of zeros alone", () -> {
            SongRefinery x = withTanks(9);
            x.setTuning(0, 0);
            frames(x, 0, 1);
            Check.due("loudness 1", x.pour(0), 0);
            x.addFilter('g', 0);
            Check.due("loudness 0", x.pour(0), 1);
        });
        Check.test("23 pour: the tuning 9999 accepts 9999 and not 10000", () -> {
            SongRefinery x = withTanks(9);
            x.addNote(0, 2, 909, 8);
            for (int parameter : new int[] {200, 200, 200, 125, 110}) {
                x.addFilter('g', parameter);
            }
            // 909 1818 3636 7272 9090 9999
            Check.due("9999", x.pour(0), 1);
            Check.due("frameLoudness", x.frameLoudness(0, 0), 9999);
            SongRefinery y = withTanks(9);
            y.addNote(0, 2, 625, 8);
            for (int i = 0; i < 4; i++) {
                y.addFilter('g', 200);
            }
            Check.due("10000", y.pour(0), 0);
        });
        Check.test("23 pour: a negative sample's absolute value counts against the tuning", () -> {
            SongRefinery x = withTanks(9);
            x.setTuning(0, 50);
            x.addNote(0, 2, 50, 1);
            x.addFilter('f', 0);
            Check.due("-50", x.pour(0), 1);
            x.addNote(1, 2, 51, 1);
            Check.due("-51", x.pour(1), 0);
        });
    }

    private static void choosing() {
        Check.test("23 pour: into the tank that has the most room", () -> {
            SongRefinery x = withTanks(1, 3, 2);
            frames(x, 0, 5);
            x.pour(0);
            Check.due("tanks", tanks(x), "0/1, 1/3 5, 0/2");
        });
        Check.test("23 pour: room is the capacity minus the level", () -> {
            SongRefinery x = withTanks(9, 2);
            frames(x, 0, 1, 2, 3, 4, 5, 6, 7, 8, 9);
            x.pour(0);
            // Tank 0 has the greater capacity, but after 8 frames the lesser room.
            Check.due("tanks", tanks(x), "8/9 1 2 3 4 5 6 7 8, 1/2 9");
        });
        Check.test("23 pour: of several with the most room into the one with the lowest number", () -> {
            SongRefinery x = withTanks(1, 2, 2, 2);
            frames(x, 0, 5, 6, 7);
            x.pour(0);
            Check.due("tanks", tanks(x), "0/1, 1/2 5, 1/2 6, 1/2 7");
        });
        Check.test("23 pour: the most room among those that accept the frame", () -> {
            SongRefinery x = withTanks(9, 1, 2);
            x.setTuning(0, 10);
            frames(x, 0, 11, 10, 11, 11, 11);
            Check.due("pour", x.pour(0), 4);
            Check.due("tanks", tanks(x), "1/9@10 10, 1/1 11, 2/2 11 11");
        });
        Check.test("23 pour: if no tank accepts it, the frame is dropped, and the next ones are handled", () -> {
            SongRefinery x = withTanks(2);
            x.setTuning(0, 10);
            frames(x, 0, 11, 9, 12, 8, 7);
            Check.due("pour", x.pour(0), 2);
            Check.due("tank", Look.tank(x, 0), "2/2@10 9 8");
            Check.due("dropped", x.droppedTotal(), 3);
        });
    }

    private static void pouring() {
        Check.test("23 pour: without tanks all frames are dropped, and the call succeeds", () -> {
            SongRefinery x = new SongRefinery();
            frames(x, 0, 5, 6);
            Check.due("pour", x.pour(0), 0);
            Check.due("dropped", x.droppedTotal(), 2);
        });
        Check.test("23 pour: NoSuchElementException if the song has no notes", () -> {
            SongRefinery x = withTanks(2);
            frames(x, 1, 5);
            Check.refused(Check.NSEE, "never one", x, () -> x.pour(0));
            x.removeNote(1);
            Check.refused(Check.NSEE, "none any more", x, () -> x.pour(1));
        });
        Check.test("23 pour: all 20 frames of a full song into four tanks", () -> {
            SongRefinery x = withTanks(9, 9, 1, 1);
            for (int i = 0; i < 4; i++) {
                x.addNote(0, 2, i + 1, 40);
            }
            Check.due("pour", x.pour(0), 20);
            Check.due("level", x.level(0) + x.level(1) + x.level(2) + x.level(3), 20);
            Check.due("pour again", x.pour(0), 0);
            Check.due("dropped", x.droppedTotal(), 20);
        });
        Check.test("23 pour: a stored frame keeps its loudness, whatever happens to the filters and songs", () -> {
            SongRefinery x = withTanks(3);
            frames(x, 0, 5, 6);
            x.pour(0);
            x.addFilter('g', 200);
            x.removeNote(0);
            x.removeNote(0);
            frames(x, 0, 9);
            Check.due("tank", Look.tank(x, 0), "2/3 5 6");
        });
    }

    private static void framing() {
        int[][] lengths = {{1, 1}, {7, 1}, {8, 1}, {9, 2}, {15, 2}, {16, 2}, {17, 3}, {40, 5}};
        for (int[] length : lengths) {
            Check.test("30 frameCount: of " + length[0] + " samples", () -> {
                SongRefinery x = withTanks(9);
                x.addNote(3, 2, 5, length[0]);
                Check.due("frameCount", x.frameCount(3), length[1]);
                Check.due("pour", x.pour(3), length[1]);
            });
        }
        Check.test("30 frameCount: 0 without notes", () -> {
            SongRefinery x = new SongRefinery();
            Check.due("never one", x.frameCount(0), 0);
            x.addNote(0, 2, 5, 9);
            x.removeNote(0);
            Check.due("none any more", x.frameCount(0), 0);
        });
        Check.test("30 frameCount: of 159 and of 160 samples", () -> {
            SongRefinery x = new SongRefinery();
            for (int i = 0; i < 3; i++) {
                x.addNote(0, 2, 5, 40);
            }
            x.addNote(0, 2, 5, 39);
            Check.due("159", x.frameCount(0), 20);
            x.addNote(0, 2, 5, 1);
            Check.due("160", x.frameCount(0), 20);
        });
        Check.test("23 pour: the last frame has fewer samples, and none of the song poured before", () -> {
            SongRefinery x = withTanks(9);
            frames(x, 0, 900, 900);
            x.addNote(1, 20, 5, 9);
            x.pour(0);
            x.pour(1);
            Check.due("tank", Look.tank(x, 0), "4/9 900 900 5 5");
        });
        Check.test("23 pour: the eighth sample belongs to the first frame, the ninth to the second", () -> {
            SongRefinery x = withTanks(9);
            x.addNote(0, 2, 1, 7);
            x.addNote(0, 2, 80, 1);
            x.addNote(0, 2, 90, 1);
            x.addNote(0, 2, 1, 6);
            x.addNote(0, 2, 70, 1);
            x.addNote(0, 2, 3, 1);
            x.pour(0);
            Check.due("tank", Look.tank(x, 0), "3/9 80 90 3");
        });
        Check.test("23 pour: the loudness is the greatest absolute value, of a frame of negative samples too", () -> {
            SongRefinery x = withTanks(9);
            x.addNote(0, 20, 5, 3);
            x.addNote(0, 20, 9, 5);
            x.addFilter('f', 0);
            x.pour(0);
            Check.due("frameLoudness", x.frameLoudness(0, 0), 9);
        });
    }

    private static void draining() {
        Check.test("24 drain: IllegalArgumentException if the number of frames is too small", () -> {
            SongRefinery x = withFilledTanks(1);
            Check.refused(Check.IAE, "0", x, () -> x.drain(0, 0));
            Check.refused(Check.IAE, "-1", x, () -> x.drain(0, -1));
            Check.refused(Check.IAE, "the lowest", x, () -> x.drain(0, Integer.MIN_VALUE));
        });
        Check.test("24 drain: IllegalArgumentException if the number of frames is too large", () -> {
            SongRefinery x = withFilledTanks(1);
            Check.refused(Check.IAE, "10", x, () -> x.drain(0, 10));
            Check.refused(Check.IAE, "the highest", x, () -> x.drain(0, Integer.MAX_VALUE));
        });
        Check.test("24 drain: NoSuchElementException if the tank has fewer frames", () -> {
            SongRefinery x = withFilledTanks(1);
            Check.refused(Check.NSEE, "5 of 4", x, () -> x.drain(0, 5));
            Check.refused(Check.NSEE, "9 of 4", x, () -> x.drain(0, 9));
        });
        Check.test("24 drain: NoSuchElementException if the tank is empty", () -> {
            SongRefinery x = withTanks(9, 9);
            frames(x, 0, 5);
            x.pour(0);
            Check.refused(Check.NSEE, "never a frame", x, () -> x.drain(1, 1));
            x.drain(0, 1);
            Check.refused(Check.NSEE, "no frame any more", x, () -> x.drain(0, 1));
        });
        Check.test("24 drain: all frames that there are", () -> {
            SongRefinery x = withFilledTanks(1);
            Check.due("drain", x.drain(0, 4), 6);
            Check.due("level", x.level(0), 0);
        });
        Check.test("24 drain: 9 frames of a full tank", () -> {
            SongRefinery x = withTanks(9);
            frames(x, 0, 1, 2, 3, 4, 50, 4, 3, 2, 1);
            x.pour(0);
            Check.due("drain", x.drain(0, 9), 50);
            Check.due("drained", x.drainedTotal(), 9);
        });
        Check.test("24 drain: the oldest frames go", () -> {
            SongRefinery x = withTanks(5);
            frames(x, 0, 10, 30, 20, 50, 40);
            x.pour(0);
            Check.due("drain", x.drain(0, 3), 30);
            Check.due("tank", Look.tank(x, 0), "2/5 50 40");
        });
        Check.test("24 drain: the greatest loudness of the drained frames alone", () -> {
            SongRefinery x = withTanks(5);
            frames(x, 0, 10, 20, 90);
            x.pour(0);
            Check.due("the first", x.drain(0, 1), 10);
            Check.due("the second", x.drain(0, 1), 20);
            Check.due("the third", x.drain(0, 1), 90);
        });
        Check.test("24 drain: 0 if the drained frames are silent", () -> {
            SongRefinery x = withTanks(5);
            frames(x, 0, 10, 20);
            x.addFilter('g', 0);
            x.pour(0);
            Check.due("drain", x.drain(0, 2), 0);
        });
        Check.test("24 drain: a tank of 9 frames that is filled and drained many times keeps their order", () -> {
            SongRefinery x = withTanks(9);
            int poured = 0;
            for (int turn = 0; turn < 30; turn++) {
                frames(x, 0, ++poured, ++poured);
                x.pour(0);
                x.removeNote(0);
                x.removeNote(0);
                if (turn >= 3) {
                    Check.due("drain", x.drain(0, 2), poured - 6);
                }
            }
            Check.due("tank", Look.tank(x, 0), "6/9 55 56 57 58 59 60");
        });
    }

    private static void asking() {
        Check.test("25 tankCount: from 0 to 4", () -> {
            SongRefinery x = new SongRefinery();
            for (int tank = 0; tank < 4; tank++) {
                Check.due("tankCount", x.tankCount(), tank);
                x.addTank(1);
            }
            Check.due("tankCount", x.tankCount(), 4);
        });
        Check.test("28 level: from 0 to the capacity", () -> {
            SongRefinery x = withTanks(9);
            frames(x, 0, 5);
            for (int level = 0; level < 9; level++) {
                Check.due("level", x.level(0), level);
                x.pour(0);
            }
            x.pour(0);
            Check.due("level", x.level(0), 9);
        });
        Check.test("29 frameLoudness: NoSuchElementException if the tank is empty", () -> {
            SongRefinery x = withTanks(9, 9);
            frames(x, 0, 5);
            x.pour(0);
            Check.refused(Check.NSEE, "never a frame", x, () -> x.frameLoudness(1, 0));
            x.drain(0, 1);
            Check.refused(Check.NSEE, "no frame any more", x, () -> x.frameLoudness(0, 0));
        });
        Check.test("29 frameLoudness: NoSuchElementException if there is no such frame", () -> {
            SongRefinery x = withFilledTanks(2);
            for (int bad : Check.outside(0, 1)) {
                Check.refused(Check.NSEE, "age " + bad, x, () -> x.frameLoudness(0, bad));
            }
        });
        Check.test("29 frameLoudness: of the ages 0 and 8 of a full tank", () -> {
            SongRefinery x = withTanks(9);
            frames(x, 0, 1, 2, 3, 4, 5, 6, 7, 8, 9);
            x.pour(0);
            Check.due("the oldest", x.frameLoudness(0, 0), 1);
            Check.due("the youngest", x.frameLoudness(0, 8), 9);
            Check.refused(Check.NSEE, "age 9", x, () -> x.frameLoudness(0, 9));
        });
    }

    private interface Drops {
        int of(SongRefinery x, int song);
    }

    private static void drops(String method, Drops drops) {
        Check.test(method + ": 0 without notes", () -> {
            SongRefinery x = withTanks(1);
            frames(x, 0, 5, 5);
            x.removeNote(0);
            x.removeNote(0);
            Check.due("none any more", drops.of(x, 0), 0);
            Check.due("never one", drops.of(x, 1), 0);
        });
        Check.test(method + ": all frames without tanks", () -> {
            SongRefinery x = new SongRefinery();
            frames(x, 0, 5, 5);
            x.addNote(0, 2, 5, 1);
            Check.due("drops", drops.of(x, 0), 3);
        });
        Check.test(method + ": all frames if the tanks are full", () -> {
            SongRefinery x = withTanks(2, 1);
            frames(x, 0, 5, 5, 5);
            Check.due("before", drops.of(x, 0), 0);
            x.pour(0);
            Check.due("after", drops.of(x, 0), 3);
        });
        Check.test(method + ": a frame as loud as the tuning is not dropped, one louder by 1 is", () -> {
            SongRefinery x = withTanks(9);
            x.setTuning(0, 50);
            frames(x, 0, 50, 51);
            Check.due("drops", drops.of(x, 0), 1);
            x.setTuning(0, 49);
            Check.due("drops", drops.of(x, 0), 2);
        });
        Check.test(method + ": the frames of the song itself fill the tanks", () -> {
            SongRefinery x = withTanks(2);
            frames(x, 0, 5, 5, 5);
            Check.due("drops", drops.of(x, 0), 1);
        });
        Check.test(method + ": of tanks with the same room the lowest number takes the frame", () -> {
            SongRefinery x = withTanks(1, 1);
            x.setTuning(1, 50);
            // The quiet frame goes into tank 0, so the loud one finds no room there.
            frames(x, 0, 10, 90);
            Check.due("drops", drops.of(x, 0), 1);
            SongRefinery y = withTanks(1, 1);
            y.setTuning(0, 50);
            frames(y, 0, 10, 90);
            Check.due("the other way round", drops.of(y, 0), 0);
        });
        Check.test(method + ": the tank with the most room takes the frame, room being the capacity minus the level", () -> {
            SongRefinery x = withTanks(2, 2);
            x.setTuning(1, 50);
            frames(x, 0, 60);
            x.pour(0);
            // Now the rooms are 1 and 2: the quiet frame leaves tank 0 to the loud one.
            frames(x, 1, 10, 90);
            Check.due("drops", drops.of(x, 1), 0);
        });
        Check.test(method + ": nothing is poured", () -> {
            String before = Deep.after(Rich::made);
            Check.due("all that can be told", Deep.after(Rich::made, x -> drops.of(x, 0)), before);
        });
    }

    private static String ranks(SongRefinery x) {
        StringBuilder text = new StringBuilder();
        int count = x.tankCount();
        for (int rank = 0; rank < count; rank++) {
            text.append(x.tankAtRank(rank));
        }
        return text.toString();
    }

    private static void ranking() {
        for (int count = 0; count <= 4; count++) {
            int tanks = count;
            Check.test("33 tankAtRank: NoSuchElementException if there is no such rank, with " + count + " tanks", () -> {
                SongRefinery x = withFilledTanks(tanks);
                for (int bad : Check.outside(0, tanks - 1)) {
                    Check.refused(Check.NSEE, "rank " + bad, x, () -> x.tankAtRank(bad));
                }
            });
        }
        Check.test("33 tankAtRank: the only tank", () -> Check.due("rank 0", withTanks(3).tankAtRank(0), 0));
        Check.test("33 tankAtRank: the tank with the higher level first, whatever its capacity", () -> {
            SongRefinery x = withTanks(1, 9);
            frames(x, 0, 5);
            x.pour(0);
            Check.due("ranks", ranks(x), "10");
        });
        Check.test("33 tankAtRank: of tanks with the same level the one with the smaller capacity first", () -> {
            Check.due("empty ones", ranks(withTanks(9, 3, 1, 2)), "2310");
            SongRefinery x = withTanks(3, 2);
            frames(x, 0, 5, 5, 5);
            x.pour(0);
            x.drain(0, 1);
            Check.due("levels 1 and 1", ranks(x), "10");
        });
        Check.test("33 tankAtRank: of the same level and capacity the one with the lower number first", () -> {
            Check.due("empty ones", ranks(withTanks(5, 5, 5, 5)), "0123");
            SongRefinery x = withTanks(5, 1, 5, 1);
            Check.due("two and two", ranks(x), "1302");
        });
    }

    private static void totals() {
        Check.test("34 storedTotal: 0 at first, no dropped frame counts", () -> {
            SongRefinery x = withTanks(1);
            Check.due("at first", x.storedTotal(), 0);
            frames(x, 0, 5, 5, 5);
            x.pour(0);
            Check.due("one of three", x.storedTotal(), 1);
            x.pour(0);
            Check.due("none of three", x.storedTotal(), 1);
        });
        Check.test("34 storedTotal: drained frames still count", () -> {
            SongRefinery x = withTanks(9);
            frames(x, 0, 5, 5, 5);
            x.pour(0);
            x.drain(0, 3);
            Check.due("storedTotal", x.storedTotal(), 3);
        });
        Check.test("35 droppedTotal: 0 at first, no stored frame counts, what could be dropped neither", () -> {
            SongRefinery x = withTanks(1);
            Check.due("at first", x.droppedTotal(), 0);
            frames(x, 0, 5, 5, 5);
            x.dropsFor(0);
            x.dropsByLevels(0);
            x.isConsistent();
            Check.due("nothing poured", x.droppedTotal(), 0);
            x.pour(0);
            Check.due("two of three", x.droppedTotal(), 2);
        });
        Check.test("36 drainedTotal: 0 at first, a refused drain does not count", () -> {
            SongRefinery x = withTanks(9);
            Check.due("at first", x.drainedTotal(), 0);
            frames(x, 0, 5, 5, 5);
            x.pour(0);
            Check.refused(Check.NSEE, "4 of 3", x, () -> x.drain(0, 4));
            Check.due("none", x.drainedTotal(), 0);
            x.drain(0, 1);
            x.drain(0, 2);
            Check.due("three", x.drainedTotal(), 3);
        });
        Check.test("34, 35, 36 a run that fails counts nothing", () -> {
            SongRefinery x = withTanks(2);
            frames(x, 0, 5, 5, 5);
            Look.type(x, "pour 0;drain 0 1;pour 3");
            Check.refused(Check.ISE, "run", x, x::run);
            Check.due("all three totals", x.storedTotal() + x.droppedTotal() + x.drainedTotal(), 0);
        });
    }
}
