/** The boundary cases that the document names for promises 37 to 40, a test for each sentence. */
final class CommandEdges {
    private CommandEdges() {
    }

    static void all() {
        appending();
        rightTexts();
        numbers();
        eachCommand();
        longTexts();
        allOrNone();
        emptyText();
        failures();
        errorPositions();
        errorPositionSet();
        failedCommandSet();
    }

    private static int error(SongRefinery x, String text) {
        Look.type(x, text);
        Check.refused(Check.IAE, "run of \"" + text + "\"", x, x::run);
        return x.errorPosition();
    }

    private static int fails(SongRefinery x, String text) {
        Look.type(x, text);
        Check.refused(Check.ISE, "run of \"" + text + "\"", x, x::run);
        return x.failedCommand();
    }

    private static void appending() {
        Check.test("37 append: IllegalArgumentException if the code of the character is less than 32", () -> {
            SongRefinery x = new SongRefinery();
            for (int code = 0; code < 32; code++) {
                char character = (char) code;
                Check.throwing(Check.IAE, "code " + code, () -> x.append(character));
            }
            Check.due("nothing was appended", x.append(' '), 1);
        });
        Check.test("37 append: IllegalArgumentException if the code of the character is greater than 126", () -> {
            for (int code = 127; code <= Character.MAX_VALUE; code++) {
                char character = (char) code;
                SongRefinery x = new SongRefinery();
                Check.throwing(Check.IAE, "code " + code, () -> x.append(character));
            }
        });
        Check.test("37 append: the codes 32 to 126", () -> {
            SongRefinery x = new SongRefinery();
            for (int code = 32; code <= 126; code++) {
                Check.due("code " + code, x.append((char) code), (code - 32) % 60 + 1);
                if ((code - 32) % 60 == 59) {
                    Check.throwing(Check.IAE, "run", x::run);
                }
            }
        });
        Check.test("37 append: returns the length, from 1 to 60", () -> {
            SongRefinery x = new SongRefinery();
            for (int i = 1; i <= 60; i++) {
                Check.due("append", x.append('a'), i);
            }
        });
        Check.test("37 append: IllegalStateException if the command text has 60 characters", () -> {
            SongRefinery x = new SongRefinery();
            Look.type(x, "note 2 2 1 1;note 2 2 1 1;note 2 2 1 1;note 2 2 1 001;tank 9");
            Check.throwing(Check.ISE, "the 61st", () -> x.append('9'));
            Check.throwing(Check.ISE, "once more", () -> x.append(';'));
            Check.due("the text has stayed", x.run(), 5);
            Check.due("capacity", x.capacity(0), 9);
        });
        Check.test("37 append: a refused character is no part of the text", () -> {
            SongRefinery x = new SongRefinery();
            Look.type(x, "fl");
            Check.throwing(Check.IAE, "code 127", () -> x.append((char) 127));
            Check.due("the third", x.append('i'), 3);
            x.append('p');
            Check.due("run", x.run(), 1);
        });
        Check.test("37 append: it is no change", () -> {
            SongRefinery x = new SongRefinery();
            x.append('f');
            Check.throwing(Check.ISE, "undo", x::undo);
        });
    }

    private static void rightTexts() {
        Check.test("38 run: each filter's command calls addFilter() with its kind and the number", () -> {
            SongRefinery x = new SongRefinery();
            Check.due("run", Look.run(x, "gain 11;delay 2;mean 3;clip 44;step 55"), 5);
            Check.due("chain", Look.chain(x), "g11>d2>m3>c44>s55");
        });
        Check.test("38 run: flip calls addFilter() with the parameter 0, whatever was parsed before", () -> {
            SongRefinery x = new SongRefinery();
            Look.run(x, "gain 99;gain 98");
            Check.due("run", Look.run(x, "flip;flip"), 2);
            Check.due("chain", Look.chain(x), "g99>g98>f>f");
            Check.due("parameter", x.filterParameter(3), 0);
        });
        Check.test("38 run: remove calls removeFilter() with the digit", () -> {
            SongRefinery x = new SongRefinery();
            Look.run(x, "gain 1;gain 2;gain 3");
            Check.due("the last", Look.run(x, "remove 2"), 1);
            Check.due("the first", Look.run(x, "remove 0"), 1);
            Check.due("chain", Look.chain(x), "g2");
        });
        Check.test("38 run: note calls addNote() with its numbers in their order", () -> {
            SongRefinery x = new SongRefinery();
            Check.due("run", Look.run(x, "note 3 4 5 6"), 1);
            Check.due("samples", Look.rawSamples(x, 3), "5 5 -5 -5 5 5");
        });
        Check.test("38 run: tank calls addTank() with the digit", () -> {
            SongRefinery x = new SongRefinery();
            Look.run(x, "tank 1;tank 9");
            Check.due("the first", x.capacity(0), 1);
            Check.due("the second", x.capacity(1), 9);
        });
        Check.test("38 run: tune calls setTuning() with its numbers in their order", () -> {
            SongRefinery x = new SongRefinery();
            Look.run(x, "tank 1;tank 1;tank 1;tune 2 1;tune 1 999;tune 0 0");
            Check.due("tank 2", x.tuning(2), 1);
            Check.due("tank 1", x.tuning(1), 999);
            Check.due("tank 0", x.tuning(0), 0);
        });
        Check.test("38 run: pour calls pour() with the digit", () -> {
            SongRefinery x = new SongRefinery();
            Look.run(x, "note 3 2 7 1;note 2 2 8 1;tank 9;pour 3;pour 2");
            Check.due("tank", Look.tank(x, 0), "2/9 7 8");
        });
        Check.test("38 run: drain calls drain() with its digits in their order", () -> {
            SongRefinery x = new SongRefinery();
            Look.run(x, "tank 1;tank 9;note 0 2 7 40;pour 0;drain 1 3");
            Check.due("tank 0", x.level(0), 0);
            Check.due("tank 1", x.level(1), 2);
        });
    }

    private static void numbers() {
        Check.test("38 run: a number has one, two or three digits, also with zeros ahead", () -> {
            SongRefinery x = new SongRefinery();
            Check.due("run", Look.run(x, "gain 7;gain 70;gain 170;gain 007;gain 07;gain 000;gain 0"), 7);
            Check.due("chain", Look.chain(x), "g7>g70>g170>g7>g7>g0>g0");
        });
        Check.test("38 run: no number has four digits", () -> {
            Check.due("0007", error(new SongRefinery(), "gain 0007"), 8);
            Check.due("tune 0 9999", error(new SongRefinery(), "tune 0 9999"), 10);
            Check.due("a period", error(new SongRefinery(), "note 0 0002 1 1"), 10);
            Check.due("an amplitude", error(new SongRefinery(), "note 0 2 0001 1"), 12);
            Check.due("a length", error(new SongRefinery(), "note 0 2 1 0001"), 14);
        });
        Check.test("38 run: where a digit stands, two are one too many", () -> {
            Check.due("remove", error(new SongRefinery(), "remove 00"), 8);
            Check.due("note", error(new SongRefinery(), "note 00 2 1 1"), 6);
            Check.due("tank", error(new SongRefinery(), "tank 01"), 6);
            Check.due("tune", error(new SongRefinery(), "tune 00 5"), 6);
            Check.due("pour", error(new SongRefinery(), "pour 00"), 6);
            Check.due("drain", error(new SongRefinery(), "drain 00 1"), 7);
            Check.due("drain, the second one", error(new SongRefinery(), "drain 0 01"), 9);
        });
        Check.test("38 run: the digits are 0 to 9, their neighbours '/' and ':' are none", () -> {
            Check.due("the slash", error(new SongRefinery(), "gain /"), 5);
            Check.due("the colon", error(new SongRefinery(), "gain :"), 5);
            Check.due("behind a digit", error(new SongRefinery(), "gain 9:"), 6);
            SongRefinery x = new SongRefinery();
            Look.run(x, "clip 123;clip 456;clip 789;clip 10");
            Check.due("chain", Look.chain(x), "c123>c456>c789>c10");
        });
        Check.test("38 run: the greatest number is 999", () -> {
            SongRefinery x = new SongRefinery();
            Look.run(x, "clip 999;tank 1;tune 0 999;note 0 2 999 1");
            Check.due("clip", x.filterParameter(0), 999);
            Check.due("tune", x.tuning(0), 999);
            Check.due("note", x.rawSample(0, 0), 999);
            Check.due("gain", fails(x, "gain 999"), 0);
        });
    }

    /** A text, what it needs to have happened, and the index of the command that fails (or -1). */
    private static void command(String sentence, String before, String text, int failed) {
        Check.test("38 run: " + sentence, () -> {
            SongRefinery x = new SongRefinery();
            if (!before.isEmpty()) {
                Look.run(x, before);
            }
            if (failed >= 0) {
                Check.due("the failed command of \"" + text + "\"", fails(x, text), failed);
                return;
            }
            Look.type(x, text);
            Check.dueTrue("a command is carried out", x.run() > 0);
            Check.throwing(Check.NSEE, "failedCommand", x::failedCommand);
        });
    }

    private static void eachCommand() {
        String eight = "flip;flip;flip;flip;flip;flip;flip;flip";
        command("gain fails above 200", "", "gain 201", 0);
        command("gain 200 and gain 0", "", "gain 200;gain 0", -1);
        command("delay fails below 1", "", "delay 0", 0);
        command("delay fails above 8", "", "delay 9", 0);
        command("delay 1 and delay 8", "", "delay 1;delay 8", -1);
        command("mean fails below 2", "", "mean 1", 0);
        command("mean fails above 8", "", "mean 9", 0);
        command("mean 2 and mean 8", "", "mean 2;mean 8", -1);
        command("clip fails below 1", "", "clip 0", 0);
        command("clip 1 and clip 999", "", "clip 1;clip 999", -1);
        command("step fails below 2", "", "step 1", 0);
        command("step fails above 99", "", "step 100", 0);
        command("step 2 and step 99", "", "step 2;step 99", -1);
        command("a filter fails if there are 8", eight, "gain 5", 0);
        command("flip fails if there are 8", eight, "flip", 0);
        command("remove fails without filters", "", "remove 0", 0);
        command("remove fails at the number of filters", "flip;flip", "remove 2", 0);
        command("remove of the last of 8 filters", eight, "remove 7", -1);
        command("remove 8 fails with 8 filters", eight, "remove 8", 0);
        command("note fails for the song 4", "", "note 4 2 1 1", 0);
        command("note fails for the period 1", "", "note 0 1 1 1", 0);
        command("note fails for the period 21", "", "note 0 21 1 1", 0);
        command("note fails for the amplitude 0", "", "note 0 2 0 1", 0);
        command("note fails for the length 0", "", "note 0 2 1 0", 0);
        command("note fails for the length 41", "", "note 0 2 1 41", 0);
        command("note at its limits", "", "note 0 2 1 1;note 3 20 999 40", -1);
        command("note fails beyond 160 samples", "note 0 2 1 40;note 0 2 1 40;note 0 2 1 40;note 0 2 1 40", "note 0 2 1 1", 0);
        command("note up to 160 samples", "note 0 2 1 40;note 0 2 1 40;note 0 2 1 40;note 0 2 1 39", "note 0 2 1 1", -1);
        command("tank fails for the capacity 0", "", "tank 0", 0);
        command("tank at its limits", "", "tank 1;tank 9", -1);
        command("tank fails if there are 4", "tank 1;tank 1;tank 1;tank 1", "tank 1", 0);
        command("tune fails if there is no such tank", "tank 1", "tune 1 5", 0);
        command("tune at its limits", "tank 1", "tune 0 0;tune 0 999", -1);
        command("pour fails for the song 4", "note 0 2 1 1", "pour 4", 0);
        command("pour fails if the song has no notes", "note 0 2 1 1", "pour 1", 0);
        command("pour without tanks", "note 0 2 1 1", "pour 0", -1);
        command("drain fails if there is no such tank", "tank 1;note 0 2 1 1;pour 0", "drain 1 1", 0);
        command("drain fails for 0 frames", "tank 1;note 0 2 1 1;pour 0", "drain 0 0", 0);
        command("drain fails for more frames than there are", "tank 9;note 0 2 1 9;pour 0", "drain 0 3", 0);
        command("drain of all frames", "tank 9;note 0 2 1 9;pour 0", "drain 0 2", -1);
        command("a command may need what those before it did", "", "tank 1;note 1 2 5 9;pour 1;drain 0 1;flip;remove 0", -1);
        command("a command may fail by what those before it did", "flip", "remove 0;remove 0", 1);
        command("a full text may be full of filters and make room", eight, "remove 0;flip;remove 7;flip", -1);
    }

    private static void longTexts() {
        Check.test("38 run: a text of 60 characters", () -> {
            SongRefinery x = new SongRefinery();
            String text = "tank 8;tank 9;note 0 2 999 16;pour 0;drain 1 1;flip;clip 999";
            Check.due("length", text.length(), 60);
            Check.due("run", Look.run(x, text), 7);
            Check.due("the last command", x.filterParameter(1), 999);
        });
        Check.test("38 run: 12 commands, the most that the text holds, fail at the ninth filter", () -> {
            SongRefinery x = new SongRefinery();
            String text = "flip;flip;flip;flip;flip;flip;flip;flip;flip;flip;flip;flip";
            Check.due("failed command", fails(x, text), 8);
            Check.due("filterCount", x.filterCount(), 0);
        });
        Check.test("38 run: with 12 commands and a wrong end the text is not a command text", () -> {
            SongRefinery x = new SongRefinery();
            String text = "flip;flip;flip;flip;flip;flip;flip;flip;flip;flip;flip;flip:";
            Check.due("error position", error(x, text), 59);
        });
        Check.test("38 run: returns the number of commands, 8 of 8 filters", () -> {
            SongRefinery x = new SongRefinery();
            Check.due("run", Look.run(x, "flip;flip;flip;flip;flip;flip;flip;flip"), 8);
            Check.due("filterCount", x.filterCount(), 8);
        });
        Check.test("38 run: returns 1 for one command", () -> Check.due("run", Look.run(new SongRefinery(), "flip"), 1));
    }

    private static void allOrNone() {
        Check.test("38 run: either all commands are carried out, or none", () -> {
            SongRefinery x = new SongRefinery();
            Look.run(x, "tank 2;note 0 2 5 9;pour 0;gain 90");
            // refused() compares the refinery before and after.
            Check.due("the last fails", fails(x, "flip;remove 0;note 0 2 5 9;tank 3;tune 0 1;drain 0 1;pour 3"), 6);
            Check.due("the first fails", fails(x, "pour 3;flip;tank 3"), 0);
            Check.due("run", Look.run(x, "flip;tank 3"), 2);
            Check.due("chain", Look.chain(x), "g90>f");
        });
        Check.test("38 run: nothing is carried out if the text is not a command text", () -> {
            SongRefinery x = new SongRefinery();
            Check.due("wrong at the end", error(x, "flip;tank 3;"), 12);
            Check.due("filterCount", x.filterCount(), 0);
            Check.due("tankCount", x.tankCount(), 0);
        });
        Check.test("38 run: a run that is refused is no change", () -> {
            SongRefinery x = new SongRefinery();
            error(x, "flip;");
            fails(x, "flip;pour 0");
            Check.throwing(Check.ISE, "undo", x::undo);
        });
    }

    private static void emptyText() {
        Check.test("38 run: the command text is empty after the call", () -> {
            SongRefinery x = new SongRefinery();
            Look.run(x, "flip;flip");
            Check.due("append", x.append('f'), 1);
            Look.type(x, "lip");
            Check.due("run", x.run(), 1);
        });
        Check.test("38 run: the command text is empty after an IllegalArgumentException", () -> {
            SongRefinery x = new SongRefinery();
            error(x, "flip;x");
            Check.due("append", x.append('f'), 1);
            Look.type(x, "lip");
            Check.due("run", x.run(), 1);
        });
        Check.test("38 run: the command text is empty after an IllegalStateException", () -> {
            SongRefinery x = new SongRefinery();
            fails(x, "flip;pour 0");
            Check.due("append", x.append('f'), 1);
            Look.type(x, "lip");
            Check.due("run", x.run(), 1);
        });
        Check.test("38 run: an empty text is not a command text", () -> {
            SongRefinery x = new SongRefinery();
            Check.due("error position", error(x, ""), 0);
            Look.run(x, "flip");
            Check.due("after a run", error(x, ""), 0);
        });
        Check.test("38 run: a full text makes room for another full one", () -> {
            SongRefinery x = new SongRefinery();
            for (int turn = 0; turn < 3; turn++) {
                Check.due("run", Look.run(x, "clip 999;".repeat(6) + "clip 9"), 7);
                x.undo();
            }
        });
    }

    private static void failures() {
        Check.test("38 run: the first command whose method would throw is the failed command", () -> {
            SongRefinery x = new SongRefinery();
            Check.due("two that fail", fails(x, "flip;gain 201;pour 0"), 1);
            Check.due("all that fail", fails(x, "tank 0;gain 201;pour 0"), 0);
        });
        Check.test("38 run: if a command fails and the text is wrong behind it, the text counts", () -> {
            SongRefinery x = new SongRefinery();
            Check.due("error position", error(x, "pour 0;flop"), 9);
            Check.throwing(Check.NSEE, "failedCommand", x::failedCommand);
        });
    }

    private static void position(String text, int want) {
        Check.due("the error position of \"" + text + "\"", error(new SongRefinery(), text), want);
    }

    /** Each place in the text of a command: one character less, and a wrong one. */
    private static void everyPlace(String command) {
        Check.test("39 errorPosition: at each place of \"" + command + "\"", () -> {
            Check.due("run", runnable(command), 1);
            for (int place = 0; place < command.length(); place++) {
                String begun = command.substring(0, place);
                if (!isCommand(begun)) {
                    position(begun, place);
                    position("flip;" + begun, place + 5);
                }
                position(begun + "#", place);
                position("flip;" + begun + "#", place + 5);
            }
            position(command + "#", command.length());
            position(command + ";", command.length() + 1);
            position(command + ";;", command.length() + 1);
            position(command + " ", command.length());
        });
    }

    /** 1 for a command text, whether its commands fail or not. */
    private static int runnable(String text) {
        SongRefinery x = new SongRefinery();
        Look.type(x, text);
        try {
            return x.run();
        } catch (IllegalStateException thrown) {
            return 1;
        }
    }

    private static boolean isCommand(String text) {
        return text.matches("(gain|delay|mean|clip|step) [0-9]{1,3}|note [0-9]( [0-9]{1,3}){3}|tune [0-9] [0-9]{1,3}");
    }

    private static void errorPositions() {
        String[] commands = {"gain 123", "delay 123", "mean 123", "clip 123", "flip", "step 123", "remove 1", "note 1 234 567 890",
            "tank 1", "tune 1 234", "pour 1", "drain 1 2"};
        for (String command : commands) {
            everyPlace(command);
        }
        Check.test("39 errorPosition: the length of the text if every character can continue a command text", () -> {
            position("", 0);
            position("g", 1);
            position("gain ", 5);
            position("flip;", 5);
            position("note 1 2 3", 10);
            position("flip;flip;note 1 ", 17);
        });
        Check.test("39 errorPosition: the length 60 of a full text that is not at its end", () -> {
            position("flip;flip;flip;flip;flip;flip;flip;flip;flip;flip;flip;flip;", 60);
        });
        Check.test("39 errorPosition: the last character of a full text", () -> {
            position("flip;flip;flip;flip;flip;flip;flip;flip;flip;flip;flip;flip ", 59);
            position("flip;flip;flip;flip;flip;flip;flip;flip;flip;flip;flip;fli;", 58);
        });
        Check.test("39 errorPosition: the first character of a text", () -> {
            for (char character = ' '; character <= '~'; character++) {
                position("" + character, "gdmcfsrntp".indexOf(character) < 0 ? 0 : 1);
            }
        });
        Check.test("39 errorPosition: keywords are matched character by character", () -> {
            position("dalay", 1);
            position("delain 1", 4);
            position("drelay", 2);
            position("tanne", 3);
            position("tunk", 3);
            position("ti", 1);
            position("mein", 2);
            position("stop 1", 2);
            position("pout", 3);
            position("notes", 4);
            position("removed", 6);
            position("FLIP", 0);
            position("fLIP", 1);
        });
        Check.test("39 errorPosition: one blank and no more between the parts", () -> {
            position(" flip", 0);
            position("flip ;flip", 4);
            position("flip; flip", 5);
            position("gain  1", 5);
            position("note 1  2", 7);
            position("note 1 2  3", 9);
            position("drain 0  1", 8);
            position("gain1", 4);
        });
        Check.test("39 errorPosition: no sign ahead of a number", () -> {
            position("gain -1", 5);
            position("gain +1", 5);
        });
        Check.test("39 errorPosition: no command between two semicolons, none ahead of the first", () -> {
            position(";", 0);
            position(";flip", 0);
            position("flip;;flip", 5);
        });
        Check.test("39 errorPosition: too many and too few numbers", () -> {
            position("flip 0", 4);
            position("remove 1 2", 8);
            position("note 1 2 3 4 5", 12);
            position("note 1 2 3;flip", 10);
            position("tank 1 2", 6);
            position("tune 1;flip", 6);
            position("tune 1 2 3", 8);
            position("pour 1 2", 6);
            position("drain 1;flip", 7);
            position("drain 1 2 3", 9);
        });
    }

    private static void errorPositionSet() {
        Check.test("39 errorPosition: NoSuchElementException if no error position was set", () -> {
            SongRefinery x = new SongRefinery();
            Check.refused(Check.NSEE, "no run", x, x::errorPosition);
            Look.run(x, "flip");
            Check.refused(Check.NSEE, "a run", x, x::errorPosition);
            fails(x, "pour 0");
            Check.refused(Check.NSEE, "a failed command", x, x::errorPosition);
        });
        Check.test("39 errorPosition: 0 is a position that was set", () -> {
            SongRefinery x = new SongRefinery();
            error(x, "");
            Check.due("errorPosition", x.errorPosition(), 0);
        });
        Check.test("39 errorPosition: the one that was set last", () -> {
            SongRefinery x = new SongRefinery();
            error(x, "flip;flop");
            error(x, "fx");
            Check.due("errorPosition", x.errorPosition(), 1);
        });
        Check.test("39 errorPosition: left as it is if a command fails, and by a run", () -> {
            SongRefinery x = new SongRefinery();
            error(x, "flip;flop");
            fails(x, "pour 0");
            Check.due("after a failed command", x.errorPosition(), 7);
            Look.run(x, "flip");
            Check.due("after a run", x.errorPosition(), 7);
        });
    }

    private static void failedCommandSet() {
        Check.test("40 failedCommand: NoSuchElementException if no command has failed", () -> {
            SongRefinery x = new SongRefinery();
            Check.refused(Check.NSEE, "no run", x, x::failedCommand);
            Look.run(x, "flip");
            Check.refused(Check.NSEE, "a run", x, x::failedCommand);
            error(x, "flop");
            Check.refused(Check.NSEE, "a wrong text", x, x::failedCommand);
            Check.throwing(Check.NSEE, "pour", () -> x.pour(0));
            Check.refused(Check.NSEE, "a call that throws is no command", x, x::failedCommand);
        });
        Check.test("40 failedCommand: the index from 0", () -> {
            SongRefinery x = new SongRefinery();
            Check.due("the first", fails(x, "pour 0"), 0);
            Check.due("the fifth", fails(x, "flip;flip;flip;flip;pour 0"), 4);
        });
        Check.test("40 failedCommand: of the latest run in which a command failed", () -> {
            SongRefinery x = new SongRefinery();
            fails(x, "flip;flip;pour 0");
            Look.run(x, "flip");
            Check.due("after a run", x.failedCommand(), 2);
            fails(x, "flip;pour 0");
            Check.due("after a further failure", x.failedCommand(), 1);
        });
        Check.test("40 failedCommand: left as it is if the text is not a command text", () -> {
            SongRefinery x = new SongRefinery();
            fails(x, "flip;flip;pour 0");
            error(x, "pour 0;x");
            Check.due("failedCommand", x.failedCommand(), 2);
        });
    }
}
