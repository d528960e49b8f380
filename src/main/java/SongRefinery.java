import java.util.Arrays;
import java.util.NoSuchElementException;

/**
 * A refinery of songs: notes give samples, a chain of filters changes the samples, and frames of
 * samples are stored in tanks or dropped.
 */
public final class SongRefinery {
    private static final int SONGS = 4;
    private static final int MOST_SAMPLES = 160;
    private static final int SHORTEST_PERIOD = 2;
    private static final int LONGEST_PERIOD = 20;
    private static final int GREATEST_AMPLITUDE = 999;
    private static final int LONGEST_NOTE = 40;

    private static final int MOST_FILTERS = 8;
    // The longest delay reaches back by 8 samples; a power of two, so that a mask finds the place.
    private static final int MEMORY = 8;

    private static final int FRAME_SAMPLES = 8;
    private static final int MOST_TANKS = 4;
    private static final int MOST_CAPACITY = 9;
    private static final int MOST_TUNING = 9999;

    private static final int MOST_CHARACTERS = 60;
    private static final int FIRST_CHARACTER = 32;
    private static final int LAST_CHARACTER = 126;
    // "flip" with its ";" is the shortest command, so 60 characters hold 12 commands at most.
    private static final int MOST_COMMANDS = 12;
    private static final int MOST_NUMBERS = 4;
    private static final int MOST_DIGITS = 3;

    // A power of two, so that a mask finds the place in the ring.
    private static final int MOST_CHANGES = 8;
    // A full tank of the loudest frames takes 71 characters, the longest chain 39.
    private static final int LINE_CHARACTERS = 80;
    // No number on the line has more than six digits.
    private static final int HIGHEST_POWER = 100000;

    private static final int NONE = -1;

    // A run has to know what a command's method would throw without throwing it.
    private static final int NO_FAULT = 0;
    private static final int NO_SUCH_INDEX = 1;
    private static final int BAD_ARGUMENT = 2;
    private static final int BAD_STATE = 3;
    private static final int NO_SUCH_ELEMENT = 4;

    private static final Word[] WORDS = Word.values();

    private final State now = new State();
    private final State trial = new State();
    private final State snapshot = new State();
    private final History history = new History();
    private final Refining refining = new Refining();
    private final Tanks tanksCopy = new Tanks();
    private final int[] rooms = new int[MOST_TANKS];
    private final CommandText text = new CommandText();
    private final Line line = new Line();
    private boolean hasSnapshot = false;
    private int lastErrorPosition = NONE;
    private int lastFailedCommand = NONE;

    public SongRefinery() {
    }

    // ---- filters

    public int addFilter(char kind, int parameter) throws IllegalArgumentException, IllegalStateException {
        throwFault(now.chain.faultOfNewFilter(kind, parameter));
        history.push(now);
        return now.chain.putFilter(now.chain.count, kind, parameter);
    }

    public int insertFilter(int position, char kind, int parameter)
            throws IndexOutOfBoundsException, IllegalArgumentException, IllegalStateException {
        throwFault(now.chain.faultOfNewPosition(position));
        throwFault(now.chain.faultOfNewFilter(kind, parameter));
        history.push(now);
        return now.chain.putFilter(position, kind, parameter);
    }

    public int removeFilter(int position) throws IndexOutOfBoundsException {
        throwFault(now.chain.faultOfPosition(position));
        history.push(now);
        return now.chain.takeFilter(position);
    }

    public int swapFilters(int first, int second) throws IndexOutOfBoundsException {
        throwFault(now.chain.faultOfPosition(first));
        throwFault(now.chain.faultOfPosition(second));
        history.push(now);
        now.chain.exchange(first, second);
        return first == second ? 0 : Math.abs(first - second) - 1;
    }

    public int filterCount() {
        return now.chain.count;
    }

    public char filterKind(int position) throws IndexOutOfBoundsException {
        throwFault(now.chain.faultOfPosition(position));
        return (char) now.chain.kindAt(position);
    }

    public int filterParameter(int position) throws IndexOutOfBoundsException {
        throwFault(now.chain.faultOfPosition(position));
        return now.chain.parameterAt(position);
    }

    // ---- songs

    public int addNote(int song, int period, int amplitude, int length)
            throws IndexOutOfBoundsException, IllegalArgumentException, IllegalStateException {
        throwFault(now.songs.faultOfNewNote(song, period, amplitude, length));
        history.push(now);
        return now.songs.putNote(song, period, amplitude, length);
    }

    public int removeNote(int song) throws IndexOutOfBoundsException, NoSuchElementException {
        throwFault(now.songs.faultOfPlaying(song));
        history.push(now);
        return now.songs.takeNote(song);
    }

    public int noteCount(int song) throws IndexOutOfBoundsException {
        throwFault(Songs.faultOfSong(song));
        return now.songs.notesOf(song);
    }

    public int songLength(int song) throws IndexOutOfBoundsException {
        throwFault(Songs.faultOfSong(song));
        return now.songs.samplesOf(song);
    }

    public int rawSample(int song, int index) throws IndexOutOfBoundsException, NoSuchElementException {
        throwFault(now.songs.faultOfSample(song, index));
        return now.songs.rawAt(song, index);
    }

    public int sample(int song, int index) throws IndexOutOfBoundsException, NoSuchElementException {
        throwFault(now.songs.faultOfSample(song, index));
        return filteredOrZero(song, index);
    }

    public int sampleByFilter(int song, int index) throws IndexOutOfBoundsException, NoSuchElementException {
        throwFault(now.songs.faultOfSample(song, index));
        refining.sendByFilter(now, song);
        return refining.givenByFilter(index);
    }

    public int mixedSample(int first, int second, int index)
            throws IndexOutOfBoundsException, NoSuchElementException {
        throwFault(Songs.faultOfSong(first));
        throwFault(Songs.faultOfSong(second));
        if (!now.songs.hasSample(first, index) && !now.songs.hasSample(second, index)) {
            throw new NoSuchElementException("neither song has such a sample");
        }
        return (filteredOrZero(first, index) + filteredOrZero(second, index)) / 2;
    }

    public int peak(int song) throws IndexOutOfBoundsException, NoSuchElementException {
        throwFault(now.songs.faultOfPlaying(song));
        int samples = sendSong(song);
        int greatest = 0;
        for (int i = 0; i < samples; i++) {
            greatest = Math.max(greatest, Math.abs(refining.given(i)));
        }
        return greatest;
    }

    public long energy(int song) throws IndexOutOfBoundsException {
        throwFault(Songs.faultOfSong(song));
        return sumOfSquares(song);
    }

    public int signChanges(int song) throws IndexOutOfBoundsException {
        throwFault(Songs.faultOfSong(song));
        int samples = sendSong(song);
        int changes = 0;
        int signBefore = 0;
        for (int i = 0; i < samples; i++) {
            int sign = signOf(refining.given(i));
            if (sign != 0) {
                if (sign == -signBefore) {
                    changes++;
                }
                signBefore = sign;
            }
        }
        return changes;
    }

    public int strongestSong() {
        int strongest = 0;
        long greatest = sumOfSquares(0);
        for (int song = 1; song < SONGS; song++) {
            long sum = sumOfSquares(song);
            if (sum > greatest) {
                strongest = song;
                greatest = sum;
            }
        }
        return strongest;
    }

    // ---- tanks

    public int addTank(int capacity) throws IllegalArgumentException, IllegalStateException {
        throwFault(now.tanks.faultOfNewTank(capacity));
        history.push(now);
        return now.tanks.putTank(capacity);
    }

    public int setTuning(int tank, int loudness) throws IndexOutOfBoundsException, IllegalArgumentException {
        throwFault(now.tanks.faultOfNewTuning(tank, loudness));
        history.push(now);
        return now.tanks.tune(tank, loudness);
    }

    public int pour(int song) throws IndexOutOfBoundsException, NoSuchElementException {
        throwFault(now.songs.faultOfPlaying(song));
        history.push(now);
        return pourSong(now, now.tanks, song);
    }

    public int drain(int tank, int frames)
            throws IndexOutOfBoundsException, IllegalArgumentException, NoSuchElementException {
        throwFault(now.tanks.faultOfDraining(tank, frames));
        history.push(now);
        return now.tanks.takeFrames(tank, frames);
    }

    public int tankCount() {
        return now.tanks.count;
    }

    public int capacity(int tank) throws IndexOutOfBoundsException {
        throwFault(now.tanks.faultOfTank(tank));
        return now.tanks.capacityOf(tank);
    }

    public int tuning(int tank) throws IndexOutOfBoundsException {
        throwFault(now.tanks.faultOfTank(tank));
        return now.tanks.tuningOf(tank);
    }

    public int level(int tank) throws IndexOutOfBoundsException {
        throwFault(now.tanks.faultOfTank(tank));
        return now.tanks.levelOf(tank);
    }

    public int frameLoudness(int tank, int age) throws IndexOutOfBoundsException, NoSuchElementException {
        throwFault(now.tanks.faultOfFrame(tank, age));
        return now.tanks.frameAt(tank, age);
    }

    public int frameCount(int song) throws IndexOutOfBoundsException {
        throwFault(Songs.faultOfSong(song));
        return now.songs.framesOf(song);
    }

    public int dropsFor(int song) throws IndexOutOfBoundsException {
        throwFault(Songs.faultOfSong(song));
        return dropsOnCopy(song);
    }

    public int dropsByLevels(int song) throws IndexOutOfBoundsException {
        throwFault(Songs.faultOfSong(song));
        return dropsFromLevels(song);
    }

    public int tankAtRank(int rank) throws NoSuchElementException {
        int tank = now.tanks.tankBehind(rank);
        if (tank == NONE) {
            throw new NoSuchElementException("there is no such rank");
        }
        return tank;
    }

    // ---- totals

    public int storedTotal() {
        return now.tanks.stored;
    }

    public int droppedTotal() {
        return now.tanks.dropped;
    }

    public int drainedTotal() {
        return now.tanks.drained;
    }

    // ---- commands

    public int append(char character) throws IllegalArgumentException, IllegalStateException {
        throwFault(text.faultOfCharacter(character));
        return text.putCharacter(character);
    }

    public int run() throws IllegalArgumentException, IllegalStateException {
        boolean isCommandText = text.parse();
        text.clear();
        if (!isCommandText) {
            lastErrorPosition = text.place;
            throw new IllegalArgumentException("the text is not a command text");
        }
        // On a trial state, so that a command that fails leaves nothing of those before it.
        trial.copyFrom(now);
        for (int command = 0; command < text.commands; command++) {
            if (faultOfCommand(trial, command) != NO_FAULT) {
                lastFailedCommand = command;
                throw new IllegalStateException("a command fails");
            }
            carryOut(trial, command);
        }
        history.push(now);
        now.copyFrom(trial);
        return text.commands;
    }

    public int errorPosition() throws NoSuchElementException {
        if (lastErrorPosition == NONE) {
            throw new NoSuchElementException("no error position was set");
        }
        return lastErrorPosition;
    }

    public int failedCommand() throws NoSuchElementException {
        if (lastFailedCommand == NONE) {
            throw new NoSuchElementException("no command has failed");
        }
        return lastFailedCommand;
    }

    // ---- line, statistics, undo, snapshot

    public int describeChain() {
        line.clear();
        for (int position = 0; position < now.chain.count; position++) {
            if (position > 0) {
                line.putSign('>');
            }
            int kind = now.chain.kindAt(position);
            line.putSign(kind);
            if (kind != 'f') {
                line.putNumber(now.chain.parameterAt(position));
            }
        }
        return line.length;
    }

    public int describeTank(int tank) throws IndexOutOfBoundsException {
        throwFault(now.tanks.faultOfTank(tank));
        line.clear();
        line.putNumber(now.tanks.levelOf(tank));
        line.putSign('/');
        line.putNumber(now.tanks.capacityOf(tank));
        if (now.tanks.tuningOf(tank) != MOST_TUNING) {
            line.putSign('@');
            line.putNumber(now.tanks.tuningOf(tank));
        }
        for (int age = 0; age < now.tanks.levelOf(tank); age++) {
            line.putSign(' ');
            line.putNumber(now.tanks.frameAt(tank, age));
        }
        return line.length;
    }

    public char lineAt(int index) throws IndexOutOfBoundsException {
        if (index < 0 || index >= line.length) {
            throw new IndexOutOfBoundsException("there is no such index");
        }
        return (char) line.signAt(index);
    }

    public double meanLevel(int song) throws IndexOutOfBoundsException, ArithmeticException {
        throwFault(Songs.faultOfSong(song));
        int samples = sendSong(song);
        if (samples == 0) {
            throw new ArithmeticException("the song has no notes");
        }
        long sum = 0;
        for (int i = 0; i < samples; i++) {
            sum += Math.abs(refining.given(i));
        }
        return (double) sum / (double) samples;
    }

    public float filledShare() throws ArithmeticException {
        int all = now.tanks.sumOfCapacities();
        if (all == 0) {
            throw new ArithmeticException("there are no tanks");
        }
        return (float) now.tanks.sumOfLevels() / (float) all;
    }

    public boolean isConsistent() {
        for (int song = 0; song < SONGS; song++) {
            if (!bothWaysAgree(song) || dropsOnCopy(song) != dropsFromLevels(song)) {
                return false;
            }
        }
        return now.tanks.stored == now.tanks.drained + now.tanks.sumOfLevels();
    }

    public int undo() throws IllegalStateException {
        if (history.count == 0) {
            throw new IllegalStateException("there is no change to undo");
        }
        history.popInto(now);
        return history.count;
    }

    public int save() {
        snapshot.copyFrom(now);
        hasSnapshot = true;
        return now.chain.count;
    }

    public int restore() throws IllegalStateException {
        if (!hasSnapshot) {
            throw new IllegalStateException("there is no snapshot");
        }
        now.copyFrom(snapshot);
        history.clear();
        return now.chain.count;
    }

    // ---- faults and rows

    private static void throwFault(int fault) {
        switch (fault) {
            case NO_SUCH_INDEX:
                throw new IndexOutOfBoundsException("there is no such song, tank or position");
            case BAD_ARGUMENT:
                throw new IllegalArgumentException("a parameter is out of range");
            case BAD_STATE:
                throw new IllegalStateException("there is no more room");
            case NO_SUCH_ELEMENT:
                throw new NoSuchElementException("there is no such sample, note or frame");
            default:
                break;
        }
    }

    // Rows are read and written here alone, so that no index can make the machine throw.
    private static int read(int[] row, int index) {
        return index >= 0 && index < row.length ? row[index] : 0;
    }

    private static void write(int[] row, int index, int value) {
        if (index >= 0 && index < row.length) {
            row[index] = value;
        }
    }

    private static void copyRow(int[] from, int[] to) {
        if (from.length <= to.length) {
            System.arraycopy(from, 0, to, 0, from.length);
        }
    }

    private static boolean isWithin(int number, int least, int greatest) {
        return number >= least && number <= greatest;
    }

    // ---- filtered samples

    private int sendSong(int song) {
        int samples = now.songs.samplesOf(song);
        refining.send(now, song, samples);
        return samples;
    }

    private int filteredOrZero(int song, int index) {
        if (!now.songs.hasSample(song, index)) {
            return 0;
        }
        refining.send(now, song, index + 1);
        return refining.given(index);
    }

    private static int signOf(int number) {
        if (number == 0) {
            return 0;
        }
        return number > 0 ? 1 : -1;
    }

    private long sumOfSquares(int song) {
        int samples = sendSong(song);
        long sum = 0;
        for (int i = 0; i < samples; i++) {
            long given = refining.given(i);
            sum += given * given;
        }
        return sum;
    }

    private boolean bothWaysAgree(int song) {
        int samples = sendSong(song);
        refining.sendByFilter(now, song);
        for (int i = 0; i < samples; i++) {
            if (refining.given(i) != refining.givenByFilter(i)) {
                return false;
            }
        }
        return true;
    }

    // ---- pouring

    /** Pours a song of the state into tanks that may be others than the state's own. */
    private int pourSong(State state, Tanks tanks, int song) {
        int samples = state.songs.samplesOf(song);
        refining.send(state, song, samples);
        int frames = state.songs.framesOf(song);
        int storedFrames = 0;
        for (int frame = 0; frame < frames; frame++) {
            if (tanks.store(refining.loudnessOf(frame, samples))) {
                storedFrames++;
            }
        }
        return storedFrames;
    }

    private int dropsOnCopy(int song) {
        tanksCopy.copyFrom(now.tanks);
        return now.songs.framesOf(song) - pourSong(now, tanksCopy, song);
    }

    private int dropsFromLevels(int song) {
        for (int tank = 0; tank < now.tanks.count; tank++) {
            write(rooms, tank, now.tanks.capacityOf(tank) - now.tanks.levelOf(tank));
        }
        int samples = sendSong(song);
        int frames = now.songs.framesOf(song);
        int drops = 0;
        for (int frame = 0; frame < frames; frame++) {
            int tank = roomiestFor(refining.loudnessOf(frame, samples));
            if (tank == NONE) {
                drops++;
            } else {
                write(rooms, tank, read(rooms, tank) - 1);
            }
        }
        return drops;
    }

    private int roomiestFor(int loudness) {
        int roomiest = NONE;
        int mostRoom = 0;
        for (int tank = 0; tank < now.tanks.count; tank++) {
            if (loudness <= now.tanks.tuningOf(tank) && read(rooms, tank) > mostRoom) {
                roomiest = tank;
                mostRoom = read(rooms, tank);
            }
        }
        return roomiest;
    }

    // ---- carrying out commands

    private int faultOfCommand(State state, int command) {
        int first = text.numberAt(command, 0);
        int second = text.numberAt(command, 1);
        switch (text.signAt(command)) {
            case 'R':
                return state.chain.faultOfPosition(first);
            case 'N':
                return state.songs.faultOfNewNote(first, second, text.numberAt(command, 2), text.numberAt(command, 3));
            case 'T':
                return state.tanks.faultOfNewTank(first);
            case 'U':
                return state.tanks.faultOfNewTuning(first, second);
            case 'P':
                return state.songs.faultOfPlaying(first);
            case 'D':
                return state.tanks.faultOfDraining(first, second);
            default:
                return state.chain.faultOfNewFilter(text.signAt(command), first);
        }
    }

    private void carryOut(State state, int command) {
        int first = text.numberAt(command, 0);
        int second = text.numberAt(command, 1);
        switch (text.signAt(command)) {
            case 'R':
                state.chain.takeFilter(first);
                break;
            case 'N':
                state.songs.putNote(first, second, text.numberAt(command, 2), text.numberAt(command, 3));
                break;
            case 'T':
                state.tanks.putTank(first);
                break;
            case 'U':
                state.tanks.tune(first, second);
                break;
            case 'P':
                pourSong(state, state.tanks, first);
                break;
            case 'D':
                state.tanks.takeFrames(first, second);
                break;
            default:
                state.chain.putFilter(state.chain.count, text.signAt(command), first);
                break;
        }
    }

    /** The filters in their order. */
    private static final class Chain {
        private final int[] kinds = new int[MOST_FILTERS];
        private final int[] parameters = new int[MOST_FILTERS];
        int count = 0;

        void copyFrom(Chain other) {
            copyRow(other.kinds, kinds);
            copyRow(other.parameters, parameters);
            count = other.count;
        }

        int kindAt(int position) {
            return read(kinds, position);
        }

        int parameterAt(int position) {
            return read(parameters, position);
        }

        int faultOfPosition(int position) {
            return isWithin(position, 0, count - 1) ? NO_FAULT : NO_SUCH_INDEX;
        }

        int faultOfNewPosition(int position) {
            return isWithin(position, 0, count) ? NO_FAULT : NO_SUCH_INDEX;
        }

        int faultOfNewFilter(int kind, int parameter) {
            if (!isKindWith(kind, parameter)) {
                return BAD_ARGUMENT;
            }
            return count < MOST_FILTERS ? NO_FAULT : BAD_STATE;
        }

        private static boolean isKindWith(int kind, int parameter) {
            switch (kind) {
                case 'g':
                    return isWithin(parameter, 0, 200);
                case 'd':
                    return isWithin(parameter, 1, 8);
                case 'm':
                    return isWithin(parameter, 2, 8);
                case 'c':
                    return isWithin(parameter, 1, 999);
                case 'f':
                    return parameter == 0;
                case 's':
                    return isWithin(parameter, 2, 99);
                default:
                    return false;
            }
        }

        private void setFilter(int position, int kind, int parameter) {
            write(kinds, position, kind);
            write(parameters, position, parameter);
        }

        int putFilter(int position, int kind, int parameter) {
            for (int i = count; i > position; i--) {
                setFilter(i, kindAt(i - 1), parameterAt(i - 1));
            }
            setFilter(position, kind, parameter);
            count++;
            return count;
        }

        int takeFilter(int position) {
            int parameter = parameterAt(position);
            count--;
            for (int i = position; i < count; i++) {
                setFilter(i, kindAt(i + 1), parameterAt(i + 1));
            }
            return parameter;
        }

        void exchange(int first, int second) {
            int kind = kindAt(first);
            int parameter = parameterAt(first);
            setFilter(first, kindAt(second), parameterAt(second));
            setFilter(second, kind, parameter);
        }
    }

    /** The songs as their raw samples; of a note only its length is needed further. */
    private static final class Songs {
        private final int[] samples = new int[SONGS * MOST_SAMPLES];
        private final int[] noteLengths = new int[SONGS * MOST_SAMPLES];
        private final int[] sampleCounts = new int[SONGS];
        private final int[] noteCounts = new int[SONGS];

        void copyFrom(Songs other) {
            copyRow(other.samples, samples);
            copyRow(other.noteLengths, noteLengths);
            copyRow(other.sampleCounts, sampleCounts);
            copyRow(other.noteCounts, noteCounts);
        }

        int samplesOf(int song) {
            return read(sampleCounts, song);
        }

        int notesOf(int song) {
            return read(noteCounts, song);
        }

        int framesOf(int song) {
            return (samplesOf(song) + FRAME_SAMPLES - 1) / FRAME_SAMPLES;
        }

        boolean hasSample(int song, int index) {
            return isWithin(index, 0, samplesOf(song) - 1);
        }

        int rawAt(int song, int index) {
            return read(samples, song * MOST_SAMPLES + index);
        }

        static int faultOfSong(int song) {
            return isWithin(song, 0, SONGS - 1) ? NO_FAULT : NO_SUCH_INDEX;
        }

        int faultOfPlaying(int song) {
            if (faultOfSong(song) != NO_FAULT) {
                return NO_SUCH_INDEX;
            }
            return notesOf(song) > 0 ? NO_FAULT : NO_SUCH_ELEMENT;
        }

        int faultOfSample(int song, int index) {
            if (faultOfSong(song) != NO_FAULT) {
                return NO_SUCH_INDEX;
            }
            return hasSample(song, index) ? NO_FAULT : NO_SUCH_ELEMENT;
        }

        int faultOfNewNote(int song, int period, int amplitude, int length) {
            if (faultOfSong(song) != NO_FAULT) {
                return NO_SUCH_INDEX;
            }
            if (!isWithin(period, SHORTEST_PERIOD, LONGEST_PERIOD)
                    || !isWithin(amplitude, 1, GREATEST_AMPLITUDE)
                    || !isWithin(length, 1, LONGEST_NOTE)) {
                return BAD_ARGUMENT;
            }
            return samplesOf(song) + length <= MOST_SAMPLES ? NO_FAULT : BAD_STATE;
        }

        int putNote(int song, int period, int amplitude, int length) {
            int start = song * MOST_SAMPLES + samplesOf(song);
            int half = period / 2;
            // Counting the phase along needs no division by the period.
            int phase = 0;
            for (int i = 0; i < length; i++) {
                write(samples, start + i, phase < half ? amplitude : -amplitude);
                phase = phase + 1 < period ? phase + 1 : 0;
            }
            write(noteLengths, song * MOST_SAMPLES + notesOf(song), length);
            write(noteCounts, song, notesOf(song) + 1);
            write(sampleCounts, song, samplesOf(song) + length);
            return samplesOf(song);
        }

        int takeNote(int song) {
            int note = notesOf(song) - 1;
            int length = read(noteLengths, song * MOST_SAMPLES + note);
            write(noteCounts, song, note);
            write(sampleCounts, song, samplesOf(song) - length);
            return samplesOf(song);
        }
    }

    /** The tanks with their frames, and the totals that storing, dropping and draining count. */
    private static final class Tanks {
        private final int[] capacities = new int[MOST_TANKS];
        private final int[] tunings = new int[MOST_TANKS];
        private final int[] levels = new int[MOST_TANKS];
        private final int[] frames = new int[MOST_TANKS * MOST_CAPACITY];
        int count = 0;
        int stored = 0;
        int dropped = 0;
        int drained = 0;

        void copyFrom(Tanks other) {
            copyRow(other.capacities, capacities);
            copyRow(other.tunings, tunings);
            copyRow(other.levels, levels);
            copyRow(other.frames, frames);
            count = other.count;
            stored = other.stored;
            dropped = other.dropped;
            drained = other.drained;
        }

        int capacityOf(int tank) {
            return read(capacities, tank);
        }

        int tuningOf(int tank) {
            return read(tunings, tank);
        }

        int levelOf(int tank) {
            return read(levels, tank);
        }

        int frameAt(int tank, int age) {
            return read(frames, tank * MOST_CAPACITY + age);
        }

        private void setFrame(int tank, int age, int loudness) {
            write(frames, tank * MOST_CAPACITY + age, loudness);
        }

        int faultOfTank(int tank) {
            return isWithin(tank, 0, count - 1) ? NO_FAULT : NO_SUCH_INDEX;
        }

        int faultOfNewTank(int capacity) {
            if (!isWithin(capacity, 1, MOST_CAPACITY)) {
                return BAD_ARGUMENT;
            }
            return count < MOST_TANKS ? NO_FAULT : BAD_STATE;
        }

        int faultOfNewTuning(int tank, int loudness) {
            if (faultOfTank(tank) != NO_FAULT) {
                return NO_SUCH_INDEX;
            }
            return isWithin(loudness, 0, MOST_TUNING) ? NO_FAULT : BAD_ARGUMENT;
        }

        int faultOfDraining(int tank, int number) {
            if (faultOfTank(tank) != NO_FAULT) {
                return NO_SUCH_INDEX;
            }
            if (!isWithin(number, 1, MOST_CAPACITY)) {
                return BAD_ARGUMENT;
            }
            return number <= levelOf(tank) ? NO_FAULT : NO_SUCH_ELEMENT;
        }

        int faultOfFrame(int tank, int age) {
            if (faultOfTank(tank) != NO_FAULT) {
                return NO_SUCH_INDEX;
            }
            return isWithin(age, 0, levelOf(tank) - 1) ? NO_FAULT : NO_SUCH_ELEMENT;
        }

        int putTank(int capacity) {
            int tank = count;
            write(capacities, tank, capacity);
            write(tunings, tank, MOST_TUNING);
            write(levels, tank, 0);
            count++;
            return tank;
        }

        int tune(int tank, int loudness) {
            int previous = tuningOf(tank);
            write(tunings, tank, loudness);
            return previous;
        }

        /** Stores a frame, or counts it as dropped; answers whether it was stored. */
        boolean store(int loudness) {
            int best = NONE;
            for (int tank = 0; tank < count; tank++) {
                if (accepts(tank, loudness) && (best == NONE || roomOf(tank) > roomOf(best))) {
                    best = tank;
                }
            }
            if (best == NONE) {
                dropped++;
                return false;
            }
            setFrame(best, levelOf(best), loudness);
            write(levels, best, levelOf(best) + 1);
            stored++;
            return true;
        }

        private boolean accepts(int tank, int loudness) {
            return levelOf(tank) < capacityOf(tank) && loudness <= tuningOf(tank);
        }

        private int roomOf(int tank) {
            return capacityOf(tank) - levelOf(tank);
        }

        int takeFrames(int tank, int number) {
            int greatest = 0;
            for (int age = 0; age < number; age++) {
                greatest = Math.max(greatest, frameAt(tank, age));
            }
            int left = levelOf(tank) - number;
            for (int age = 0; age < left; age++) {
                setFrame(tank, age, frameAt(tank, age + number));
            }
            write(levels, tank, left);
            drained += number;
            return greatest;
        }

        /** The tank that has as many tanks ahead of it as are asked for. */
        int tankBehind(int others) {
            for (int tank = 0; tank < count; tank++) {
                if (tanksAheadOf(tank) == others) {
                    return tank;
                }
            }
            return NONE;
        }

        private int tanksAheadOf(int tank) {
            int ahead = 0;
            for (int other = 0; other < count; other++) {
                if (isAhead(other, tank)) {
                    ahead++;
                }
            }
            return ahead;
        }

        private boolean isAhead(int tank, int other) {
            if (levelOf(tank) != levelOf(other)) {
                return levelOf(tank) > levelOf(other);
            }
            if (capacityOf(tank) != capacityOf(other)) {
                return capacityOf(tank) < capacityOf(other);
            }
            return tank < other;
        }

        int sumOfLevels() {
            int sum = 0;
            for (int tank = 0; tank < count; tank++) {
                sum += levelOf(tank);
            }
            return sum;
        }

        int sumOfCapacities() {
            int sum = 0;
            for (int tank = 0; tank < count; tank++) {
                sum += capacityOf(tank);
            }
            return sum;
        }
    }

    /** Everything that changes can change. */
    private static final class State {
        final Chain chain = new Chain();
        final Songs songs = new Songs();
        final Tanks tanks = new Tanks();

        void copyFrom(State other) {
            chain.copyFrom(other.chain);
            songs.copyFrom(other.songs);
            tanks.copyFrom(other.tanks);
        }
    }

    /** The states before the latest changes, in a ring whose oldest one gives way. */
    private static final class History {
        private final State[] ring = new State[MOST_CHANGES];
        private int next = 0;
        int count = 0;

        private State stateAt(int turn) {
            int place = turn & (MOST_CHANGES - 1);
            State kept = ring[place];
            if (kept == null) {
                kept = new State();
                ring[place] = kept;
            }
            return kept;
        }

        void push(State state) {
            stateAt(next).copyFrom(state);
            next = (next + 1) & (MOST_CHANGES - 1);
            count = Math.min(count + 1, MOST_CHANGES);
        }

        void popInto(State state) {
            next = (next - 1) & (MOST_CHANGES - 1);
            state.copyFrom(stateAt(next));
            count--;
        }

        void clear() {
            count = 0;
        }
    }

    /** The filtered samples of a song, found in two ways; the rows are used again by each call. */
    private static final class Refining {
        private final int[] memory = new int[MOST_FILTERS * MEMORY];
        private final int[] row = new int[MOST_SAMPLES];
        private final int[] rowByFilter = new int[MOST_SAMPLES];

        int given(int index) {
            return read(row, index);
        }

        int givenByFilter(int index) {
            return read(rowByFilter, index);
        }

        /** Sends the first samples of a song one after the other through the whole chain. */
        void send(State state, int song, int samples) {
            // What a filter has not got yet counts as 0.
            Arrays.fill(memory, 0);
            for (int i = 0; i < samples; i++) {
                int sample = state.songs.rawAt(song, i);
                for (int filter = 0; filter < state.chain.count; filter++) {
                    sample = pass(state.chain, filter, i, sample);
                }
                write(row, i, sample);
            }
        }

        private int pass(Chain chain, int filter, int index, int sample) {
            int kind = chain.kindAt(filter);
            int parameter = chain.parameterAt(filter);
            int given;
            if (kind == 'd') {
                given = recall(filter, index - parameter);
            } else if (kind == 'm') {
                int sum = sample;
                for (int back = 1; back < parameter; back++) {
                    sum += recall(filter, index - back);
                }
                given = parameter > 0 ? sum / parameter : 0;
            } else {
                given = changed(kind, parameter, sample);
            }
            // After the recalls: the longest delay reads the very place that is written here.
            write(memory, filter * MEMORY + (index & (MEMORY - 1)), sample);
            return given;
        }

        private int recall(int filter, int index) {
            return read(memory, filter * MEMORY + (index & (MEMORY - 1)));
        }

        /** What the filters give that look at no earlier sample. */
        private static int changed(int kind, int parameter, int sample) {
            switch (kind) {
                case 'g':
                    return sample * parameter / 100;
                case 'c':
                    return Math.max(-parameter, Math.min(parameter, sample));
                case 'f':
                    return -sample;
                case 's':
                    return parameter > 0 ? sample / parameter * parameter : 0;
                default:
                    return sample;
            }
        }

        /** Sends all samples of a song through one filter after the other. */
        void sendByFilter(State state, int song) {
            int samples = state.songs.samplesOf(song);
            for (int i = 0; i < samples; i++) {
                write(rowByFilter, i, state.songs.rawAt(song, i));
            }
            for (int filter = 0; filter < state.chain.count; filter++) {
                passAll(state.chain.kindAt(filter), state.chain.parameterAt(filter), samples);
            }
        }

        private void passAll(int kind, int parameter, int samples) {
            // From the last one on, so that the samples before are still those that the filter got.
            for (int i = samples - 1; i >= 0; i--) {
                write(rowByFilter, i, givenAt(kind, parameter, i));
            }
        }

        private int givenAt(int kind, int parameter, int index) {
            if (kind == 'd') {
                return read(rowByFilter, index - parameter);
            }
            if (kind == 'm') {
                int sum = 0;
                for (int back = 0; back < parameter; back++) {
                    sum += read(rowByFilter, index - back);
                }
                return parameter > 0 ? sum / parameter : 0;
            }
            return changed(kind, parameter, read(rowByFilter, index));
        }

        /** The loudness of a frame of the song that was sent last, which had so many samples. */
        int loudnessOf(int frame, int samples) {
            int start = frame * FRAME_SAMPLES;
            int end = Math.min(start + FRAME_SAMPLES, samples);
            int greatest = 0;
            for (int i = start; i < end; i++) {
                greatest = Math.max(greatest, Math.abs(read(row, i)));
            }
            return greatest;
        }
    }

    /**
     * The commands' keywords, each with a sign for its command and the form of its numbers: d for a
     * digit, n for a number. No keyword begins another one.
     */
    private enum Word {
        GAIN("gain ", "n", 'g'),
        DELAY("delay ", "n", 'd'),
        MEAN("mean ", "n", 'm'),
        CLIP("clip ", "n", 'c'),
        FLIP("flip", "", 'f'),
        STEP("step ", "n", 's'),
        REMOVE("remove ", "d", 'R'),
        NOTE("note ", "dnnn", 'N'),
        TANK("tank ", "d", 'T'),
        TUNE("tune ", "dn", 'U'),
        POUR("pour ", "d", 'P'),
        DRAIN("drain ", "dd", 'D');

        final String key;
        final String form;
        final int sign;

        Word(String key, String form, int sign) {
            this.key = key;
            this.form = form;
            this.sign = sign;
        }
    }

    /** The command text, and the commands that were parsed from it last. */
    private static final class CommandText {
        private final int[] characters = new int[MOST_CHARACTERS];
        private int length = 0;
        private final int[] signs = new int[MOST_COMMANDS];
        private final int[] numbers = new int[MOST_COMMANDS * MOST_NUMBERS];
        int commands = 0;
        // The next character to parse; behind a parse that failed it is the error position.
        int place = 0;

        int faultOfCharacter(char character) {
            if (!isWithin(character, FIRST_CHARACTER, LAST_CHARACTER)) {
                return BAD_ARGUMENT;
            }
            return length < MOST_CHARACTERS ? NO_FAULT : BAD_STATE;
        }

        int putCharacter(char character) {
            write(characters, length, character);
            length++;
            return length;
        }

        void clear() {
            length = 0;
        }

        int signAt(int command) {
            return read(signs, command);
        }

        int numberAt(int command, int index) {
            return read(numbers, command * MOST_NUMBERS + index);
        }

        boolean parse() {
            commands = 0;
            place = 0;
            for (int turn = 0; turn < MOST_CHARACTERS; turn++) {
                if (!takeCommand()) {
                    return false;
                }
                if (place == length) {
                    return true;
                }
                if (!takeSign(';')) {
                    return false;
                }
            }
            return false;
        }

        /** The character at an index, or NONE behind the last one. */
        private int characterAt(int index) {
            return index < length ? read(characters, index) : NONE;
        }

        private boolean takeSign(char sign) {
            if (characterAt(place) != sign) {
                return false;
            }
            place++;
            return true;
        }

        private boolean takeCommand() {
            int longest = 0;
            for (Word word : WORDS) {
                int same = sameCharacters(word.key);
                if (same == word.key.length()) {
                    place += same;
                    return takeNumbers(word);
                }
                longest = Math.max(longest, same);
            }
            // So far some keyword could still have gone on.
            place += longest;
            return false;
        }

        private int sameCharacters(String key) {
            int same = 0;
            while (same < key.length() && characterAt(place + same) == key.charAt(same)) {
                same++;
            }
            return same;
        }

        private boolean takeNumbers(Word word) {
            for (int i = 0; i < word.form.length(); i++) {
                if (i > 0 && !takeSign(' ')) {
                    return false;
                }
                int number = takeNumber(word.form.charAt(i) == 'd' ? 1 : MOST_DIGITS);
                if (number == NONE) {
                    return false;
                }
                write(numbers, commands * MOST_NUMBERS + i, number);
            }
            if (word.form.isEmpty()) {
                write(numbers, commands * MOST_NUMBERS, 0);
            }
            write(signs, commands, word.sign);
            commands++;
            return true;
        }

        private int takeNumber(int mostDigits) {
            int number = 0;
            int digits = 0;
            while (digits < mostDigits && isWithin(characterAt(place), '0', '9')) {
                number = number * 10 + characterAt(place) - '0';
                digits++;
                place++;
            }
            return digits > 0 ? number : NONE;
        }
    }

    /** The line that the describing calls write. */
    private static final class Line {
        private final int[] signs = new int[LINE_CHARACTERS];
        int length = 0;

        void clear() {
            length = 0;
        }

        int signAt(int index) {
            return read(signs, index);
        }

        void putSign(int sign) {
            write(signs, length, sign);
            length++;
        }

        void putNumber(int number) {
            for (int power = HIGHEST_POWER; power > 0; power = power / 10) {
                if (number >= power || power == 1) {
                    putSign('0' + number / power % 10);
                }
            }
        }
    }
}
