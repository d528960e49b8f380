/** The boundary cases that the document names for changes and for promises 47 to 49, a test for each sentence. */
final class UndoEdges {
    private UndoEdges() {
    }

    static void all() {
        nothingToUndo();
        eight();
        changes();
        noChanges();
        undone();
        notUndone();
        saving();
        restoring();
    }

    private static void nothingToUndo() {
        Check.test("47 undo: IllegalStateException if there is no change to undo, of a new object", () -> {
            SongRefinery x = new SongRefinery();
            Check.refused(Check.ISE, "undo", x, x::undo);
        });
        Check.test("47 undo: IllegalStateException if all changes have been undone", () -> {
            SongRefinery x = new SongRefinery();
            x.addFilter('f', 0);
            x.addFilter('g', 5);
            Check.due("the second", x.undo(), 1);
            Check.due("the first", x.undo(), 0);
            Check.refused(Check.ISE, "undo", x, x::undo);
            Check.refused(Check.ISE, "undo, once more", x, x::undo);
        });
        Check.test("47 undo: IllegalStateException after a restore", () -> {
            SongRefinery x = new SongRefinery();
            x.save();
            x.addFilter('f', 0);
            x.restore();
            Check.refused(Check.ISE, "undo", x, x::undo);
        });
    }

    private static SongRefinery withNotes(int number) {
        SongRefinery x = new SongRefinery();
        for (int i = 1; i <= number; i++) {
            x.addNote(0, 2, i, 1);
        }
        return x;
    }

    private static void undoAll(int made, int undone) {
        SongRefinery x = withNotes(made);
        for (int left = undone - 1; left >= 0; left--) {
            Check.due("undo", x.undo(), left);
            Check.due("noteCount", x.noteCount(0), made - undone + left);
        }
        Check.refused(Check.ISE, "undo", x, x::undo);
    }

    private static void eight() {
        Check.test("47 undo: 7 changes can be undone", () -> undoAll(7, 7));
        Check.test("47 undo: 8 changes can be undone", () -> undoAll(8, 8));
        Check.test("47 undo: of 9 changes the latest 8", () -> undoAll(9, 8));
        Check.test("47 undo: of 16, 17 and 100 changes the latest 8", () -> {
            undoAll(16, 8);
            undoAll(17, 8);
            undoAll(100, 8);
        });
        Check.test("47 undo: the latest change first", () -> {
            SongRefinery x = withNotes(8);
            for (int last = 7; last > 0; last--) {
                x.undo();
                Check.due("the last note", x.rawSample(0, last - 1), last);
            }
        });
        Check.test("47 undo: a new change after some were undone is undone first, then the older ones", () -> {
            SongRefinery x = withNotes(8);
            x.undo();
            x.undo();
            x.addNote(0, 2, 99, 1);
            Check.due("the new one", x.undo(), 6);
            Check.due("the sixth", x.rawSample(0, 5), 6);
            Check.due("an older one", x.undo(), 5);
            Check.due("noteCount", x.noteCount(0), 5);
        });
        Check.test("47 undo: after all 8 were undone 8 new ones can be", () -> {
            SongRefinery x = withNotes(10);
            for (int i = 0; i < 8; i++) {
                x.undo();
            }
            for (int i = 0; i < 9; i++) {
                x.addNote(1, 2, 1, 1);
            }
            for (int left = 7; left >= 0; left--) {
                Check.due("undo", x.undo(), left);
            }
            Check.due("noteCount", x.noteCount(1), 1);
            Check.refused(Check.ISE, "undo", x, x::undo);
        });
    }

    /** A refinery in which each of the calls that are changes succeeds. */
    private static SongRefinery ready() {
        SongRefinery x = new SongRefinery();
        Look.run(x, "tank 3;tank 2;note 0 3 40 20;note 0 2 9 7;gain 90;mean 2");
        x.pour(0);
        x.save();
        x.restore();
        return x;
    }

    private static void change(String name, Deep.Call call) {
        Check.test("47 undo: " + name + " is a change", () -> {
            SongRefinery x = ready();
            String before = Look.at(x);
            call.on(x);
            Check.dueTrue("it differs", !Look.at(x).equals(before));
            Check.due("undo", x.undo(), 0);
            Check.due("the state", Look.at(x), before);
            Check.dueTrue("isConsistent", x.isConsistent());
        });
    }

    private static void sameChange(String name, Deep.Call call) {
        Check.test("47 undo: a successful call is a change even if nothing differs afterwards, " + name, () -> {
            SongRefinery x = ready();
            String before = Look.at(x);
            call.on(x);
            Check.due("the state", Look.at(x), before);
            Check.due("undo", x.undo(), 0);
            Check.due("the state", Look.at(x), before);
        });
    }

    private static void changes() {
        change("addFilter", x -> x.addFilter('f', 0));
        change("insertFilter", x -> x.insertFilter(0, 'c', 5));
        change("removeFilter", x -> x.removeFilter(0));
        change("swapFilters", x -> x.swapFilters(0, 1));
        change("addNote", x -> x.addNote(1, 2, 3, 4));
        change("removeNote", x -> x.removeNote(0));
        change("addTank", x -> x.addTank(1));
        change("setTuning", x -> x.setTuning(1, 5));
        change("pour", x -> x.pour(0));
        change("drain", x -> x.drain(0, 1));
        change("run", x -> Look.run(x, "flip"));
        change("a run of several commands is one change, it", x -> Look.run(x, "flip;tank 1;note 2 3 4 5;drain 0 1;remove 0"));
        sameChange("swapFilters of the same", x -> x.swapFilters(1, 1));
        sameChange("setTuning to the same", x -> x.setTuning(0, 9999));
        sameChange("a run that takes back what it did", x -> Look.run(x, "flip;remove 2"));
        Check.test("47 undo: a run of 8 commands takes the place of one change", () -> {
            SongRefinery x = withNotes(7);
            Look.run(x, "flip;flip;flip;flip;flip;flip;flip;flip");
            Check.due("the run", x.undo(), 7);
            Check.due("filterCount", x.filterCount(), 0);
            Check.due("the seventh note", x.undo(), 6);
        });
    }

    private static void noChange(String name, Deep.Call call) {
        Check.test("47 undo: no change is " + name, () -> {
            SongRefinery x = ready();
            call.on(x);
            Check.refused(Check.ISE, "undo", x, x::undo);
        });
    }

    private static void refusedCall(Class<? extends RuntimeException> want, Check.Body body) {
        Check.throwing(want, "the call", body);
    }

    private static void noChanges() {
        noChange("a call that only asks", x -> {
            x.filterCount();
            x.filterKind(0);
            x.filterParameter(0);
            x.noteCount(0);
            x.songLength(0);
            x.rawSample(0, 0);
            x.sample(0, 0);
            x.sampleByFilter(0, 0);
            x.mixedSample(0, 1, 0);
            x.peak(0);
            x.energy(0);
            x.signChanges(0);
            x.strongestSong();
        });
        noChange("a call that only asks for tanks", x -> {
            x.tankCount();
            x.capacity(0);
            x.tuning(0);
            x.level(0);
            x.frameLoudness(0, 0);
            x.frameCount(0);
            x.dropsFor(0);
            x.dropsByLevels(0);
            x.tankAtRank(0);
            x.storedTotal();
            x.droppedTotal();
            x.drainedTotal();
        });
        noChange("append", x -> x.append('f'));
        noChange("describing, asking for means and shares", x -> {
            x.describeChain();
            x.describeTank(0);
            x.lineAt(0);
            x.meanLevel(0);
            x.filledShare();
            x.isConsistent();
        });
        noChange("save", SongRefinery::save);
        noChange("restore", SongRefinery::restore);
        noChange("addFilter that throws", x -> refusedCall(Check.IAE, () -> x.addFilter('x', 0)));
        noChange("insertFilter that throws", x -> refusedCall(Check.IOOBE, () -> x.insertFilter(3, 'f', 0)));
        noChange("removeFilter that throws", x -> refusedCall(Check.IOOBE, () -> x.removeFilter(2)));
        noChange("swapFilters that throws", x -> refusedCall(Check.IOOBE, () -> x.swapFilters(0, 2)));
        noChange("addNote that throws", x -> refusedCall(Check.IAE, () -> x.addNote(0, 1, 1, 1)));
        noChange("removeNote that throws", x -> refusedCall(Check.NSEE, () -> x.removeNote(1)));
        noChange("addTank that throws", x -> refusedCall(Check.IAE, () -> x.addTank(0)));
        noChange("setTuning that throws", x -> refusedCall(Check.IAE, () -> x.setTuning(0, -1)));
        noChange("pour that throws", x -> refusedCall(Check.NSEE, () -> x.pour(1)));
        noChange("drain that throws", x -> refusedCall(Check.NSEE, () -> x.drain(0, 9)));
        noChange("run of a text that is no command text", x -> refusedCall(Check.IAE, x::run));
        noChange("run in which a command fails", x -> {
            Look.type(x, "flip;pour 1");
            refusedCall(Check.ISE, x::run);
        });
        Check.test("47 undo: undo is no change", () -> {
            SongRefinery x = withNotes(3);
            Check.due("the third", x.undo(), 2);
            Check.due("the second", x.undo(), 1);
            Check.due("noteCount", x.noteCount(0), 1);
        });
    }

    private static void undone() {
        Check.test("47 undo: the totals are undone", () -> {
            SongRefinery x = new SongRefinery();
            Look.run(x, "tank 2;note 0 2 5 40");
            x.pour(0);
            x.drain(0, 1);
            x.undo();
            Check.due("drained", x.drainedTotal(), 0);
            x.undo();
            Check.due("stored", x.storedTotal(), 0);
            Check.due("dropped", x.droppedTotal(), 0);
        });
        Check.test("47 undo: drained frames come back in their order", () -> {
            SongRefinery x = new SongRefinery();
            Look.run(x, "tank 3;note 0 3 5 8;note 0 3 6 8;note 0 3 7 8;pour 0");
            x.drain(0, 2);
            x.undo();
            Check.due("tank", Look.tank(x, 0), "3/3 5 6 7");
        });
        Check.test("47 undo: a removed filter comes back in its place", () -> {
            SongRefinery x = Rich.full();
            x.removeFilter(0);
            x.undo();
            Check.due("chain", Look.chain(x), "g101>g102>g103>g104>g105>g106>g107>g108");
        });
        Check.test("47 undo: a removed note comes back with its samples", () -> {
            SongRefinery x = new SongRefinery();
            x.addNote(0, 2, 7, 3);
            x.removeNote(0);
            x.addNote(0, 2, 9, 3);
            x.undo();
            x.undo();
            Check.due("samples", Look.rawSamples(x, 0), "7 -7 7");
            Check.due("noteCount", x.noteCount(0), 1);
        });
        Check.test("47 undo: a tank that was added goes, its number is free again", () -> {
            SongRefinery x = new SongRefinery();
            x.addTank(5);
            x.undo();
            Check.due("tankCount", x.tankCount(), 0);
            Check.throwing(Check.IOOBE, "capacity(0)", () -> x.capacity(0));
            Check.due("addTank", x.addTank(3), 0);
            Check.due("tank", Look.tank(x, 0), "0/3");
        });
        Check.test("47 undo: the tuning before comes back", () -> {
            SongRefinery x = new SongRefinery();
            x.addTank(5);
            x.setTuning(0, 7);
            x.setTuning(0, 0);
            x.undo();
            Check.due("7", x.tuning(0), 7);
            x.undo();
            Check.due("9999", x.tuning(0), 9999);
        });
    }

    private static int wrongText(SongRefinery x, Class<? extends RuntimeException> want, String text) {
        Look.type(x, text);
        Check.throwing(want, "run of \"" + text + "\"", x::run);
        return want == Check.IAE ? x.errorPosition() : x.failedCommand();
    }

    private static void kept(String what, Deep.Call call) {
        Check.test("47 undo: " + what, () -> {
            SongRefinery x = new SongRefinery();
            x.addFilter('f', 0);
            call.on(x);
        });
    }

    private static void notUndone() {
        kept("the command text is not undone", x -> {
            x.append('f');
            x.undo();
            Look.type(x, "lip");
            Check.due("run", x.run(), 1);
        });
        kept("a run that is undone leaves the command text empty", x -> {
            Look.run(x, "flip");
            x.undo();
            Check.due("append", x.append('f'), 1);
        });
        kept("the error position is not undone", x -> {
            Check.due("error position", wrongText(x, Check.IAE, "gaim"), 3);
            x.undo();
            Check.due("errorPosition", x.errorPosition(), 3);
        });
        kept("the failed command is not undone", x -> {
            Check.due("failed command", wrongText(x, Check.ISE, "flip;pour 0"), 1);
            x.undo();
            Check.due("failedCommand", x.failedCommand(), 1);
        });
        kept("the line is not undone", x -> {
            x.describeChain();
            x.undo();
            Check.due("line", Look.line(x, 1), "f");
        });
        kept("the snapshot is not undone", x -> {
            Check.due("save", x.save(), 1);
            x.undo();
            Check.due("restore", x.restore(), 1);
        });
    }

    private static void saving() {
        Check.test("48 save: returns the number of filters, from 0 to 8", () -> {
            SongRefinery x = new SongRefinery();
            for (int i = 0; i < 8; i++) {
                Check.due("save", x.save(), i);
                x.addFilter('f', 0);
            }
            Check.due("save", x.save(), 8);
        });
        Check.test("48 save: replacing an earlier snapshot", () -> {
            SongRefinery x = new SongRefinery();
            x.addFilter('g', 1);
            x.save();
            x.addFilter('g', 2);
            x.save();
            x.addFilter('g', 3);
            Check.due("restore", x.restore(), 2);
            Check.due("chain", Look.chain(x), "g1>g2");
        });
        Check.test("48 save: everything that changes can change", () -> {
            SongRefinery x = Rich.made();
            x.save();
            String saved = Look.at(x);
            x.insertFilter(0, 'g', 7);
            x.removeFilter(1);
            x.swapFilters(0, 1);
            x.removeNote(0);
            x.addNote(1, 3, 5, 9);
            x.addTank(7);
            x.setTuning(0, 3);
            x.drain(0, 1);
            x.pour(1);
            Check.dueTrue("all differs", !Look.at(x).equals(saved));
            x.restore();
            Check.due("the state", Look.at(x), saved);
        });
        Check.test("48 save: a new object's state, too", () -> {
            SongRefinery x = new SongRefinery();
            x.save();
            Look.run(x, "flip;tank 3;note 0 2 5 9;pour 0");
            Check.due("restore", x.restore(), 0);
            Check.due("the state", Look.at(x), Look.at(new SongRefinery()));
        });
        Check.test("48 save: the changes before it can still be undone", () -> {
            SongRefinery x = withNotes(8);
            x.save();
            Check.due("undo", x.undo(), 7);
            Check.due("noteCount", x.noteCount(0), 7);
        });
        Check.test("48 save: the command text is not saved, and stays", () -> {
            SongRefinery x = new SongRefinery();
            x.append('f');
            x.save();
            x.append('l');
            x.restore();
            Check.due("append", x.append('i'), 3);
        });
        Check.test("48 save: the error position and the failed command are not saved", () -> {
            SongRefinery x = new SongRefinery();
            wrongText(x, Check.IAE, "gaim");
            wrongText(x, Check.ISE, "flip;pour 0");
            x.save();
            wrongText(x, Check.IAE, "x");
            wrongText(x, Check.ISE, "pour 0");
            x.restore();
            Check.due("errorPosition", x.errorPosition(), 0);
            Check.due("failedCommand", x.failedCommand(), 0);
        });
        Check.test("48 save: the line is not saved", () -> {
            SongRefinery x = new SongRefinery();
            x.addFilter('f', 0);
            x.describeChain();
            x.save();
            x.addTank(4);
            x.describeTank(0);
            x.restore();
            Check.due("line", Look.line(x, 3), "0/4");
        });
    }

    private static void restoring() {
        Check.test("49 restore: IllegalStateException if there is no snapshot", () -> {
            SongRefinery x = new SongRefinery();
            Check.refused(Check.ISE, "of a new object", x, x::restore);
            x.addFilter('f', 0);
            Check.refused(Check.ISE, "after a change", x, x::restore);
            Check.due("the change can still be undone", x.undo(), 0);
        });
        Check.test("49 restore: the snapshot is kept", () -> {
            SongRefinery x = new SongRefinery();
            x.addFilter('g', 1);
            x.save();
            for (int i = 0; i < 3; i++) {
                x.addFilter('g', 2);
                x.swapFilters(0, 1);
                Check.due("restore", x.restore(), 1);
                Check.due("chain", Look.chain(x), "g1");
            }
            Check.due("restore, with no change between", x.restore(), 1);
        });
        Check.test("49 restore: after the call no change can be undone, of 8", () -> {
            SongRefinery x = withNotes(8);
            x.save();
            x.restore();
            Check.refused(Check.ISE, "undo", x, x::undo);
        });
        Check.test("49 restore: changes after it can be undone, up to the snapshot's state", () -> {
            SongRefinery x = withNotes(5);
            x.save();
            x.addFilter('f', 0);
            x.restore();
            x.addNote(0, 2, 6, 1);
            x.addNote(0, 2, 7, 1);
            Check.due("the second", x.undo(), 1);
            Check.due("the first", x.undo(), 0);
            Check.due("noteCount", x.noteCount(0), 5);
            Check.refused(Check.ISE, "undo", x, x::undo);
        });
        Check.test("49 restore: returns the number of filters, 0 and 8", () -> {
            SongRefinery x = new SongRefinery();
            x.save();
            x.addFilter('f', 0);
            Check.due("0", x.restore(), 0);
            for (int i = 0; i < 8; i++) {
                x.addFilter('f', 0);
            }
            x.save();
            x.removeFilter(0);
            Check.due("8", x.restore(), 8);
        });
        Check.test("49 restore: the totals are restored", () -> {
            SongRefinery x = new SongRefinery();
            Look.run(x, "tank 2;note 0 2 5 40");
            x.save();
            x.pour(0);
            x.drain(0, 1);
            x.restore();
            Check.due("all three totals", x.storedTotal() + x.droppedTotal() + x.drainedTotal(), 0);
        });
    }
}
