import java.util.ArrayDeque;
import java.util.ArrayList;
import java.util.Comparator;
import java.util.Deque;
import java.util.List;
import java.util.NoSuchElementException;
import java.util.function.IntPredicate;
import java.util.regex.Matcher;
import java.util.regex.Pattern;

/** The document once more, written in another way, for comparing on random calls. */
final class Model {
    private static final String NUMBER = "[0-9][0-9]?[0-9]?";
    private static final Pattern COMMAND = Pattern.compile("(?:(?:gain|delay|mean|clip|step) " + NUMBER + "|flip|remove [0-9]|note [0-9] "
        + NUMBER + " " + NUMBER + " " + NUMBER + "|tank [0-9]|tune [0-9] " + NUMBER + "|pour [0-9]|drain [0-9] [0-9])");
    private static final Pattern TEXT = Pattern.compile(COMMAND.pattern() + "(?:;" + COMMAND.pattern() + ")*");

    private record Filter(char kind, int parameter) { }

    private record Note(int period, int amplitude, int length) { }

    private static final class Tank {
        int capacity;
        int tuning = 9999;
        List<Integer> frames = new ArrayList<>();
    }

    private static final class State {
        List<Filter> chain = new ArrayList<>();
        List<List<Note>> songs = new ArrayList<>();
        List<Tank> tanks = new ArrayList<>();
        int stored;
        int dropped;
        int drained;

        State() {
            for (int i = 0; i < 4; i++) {
                songs.add(new ArrayList<>());
            }
        }

        State copy() {
            State other = new State();
            other.chain.addAll(chain);
            for (int i = 0; i < 4; i++) {
                other.songs.get(i).addAll(songs.get(i));
            }
            for (Tank tank : tanks) {
                Tank same = new Tank();
                same.capacity = tank.capacity;
                same.tuning = tank.tuning;
                same.frames.addAll(tank.frames);
                other.tanks.add(same);
            }
            other.stored = stored;
            other.dropped = dropped;
            other.drained = drained;
            return other;
        }
    }

    private State state = new State();
    private Deque<State> changes = new ArrayDeque<>();
    private State saved;
    private String text = "";
    private String line = "";
    private int error = -1;
    private int failed = -1;
    private boolean running = false;

    private void change() {
        if (running) {
            return;
        }
        changes.push(state.copy());
        if (changes.size() > 8) {
            changes.removeLast();
        }
    }

    private static void index(boolean right) {
        if (!right) {
            throw new IndexOutOfBoundsException();
        }
    }

    private static void argument(boolean right) {
        if (!right) {
            throw new IllegalArgumentException();
        }
    }

    private static void state(boolean right) {
        if (!right) {
            throw new IllegalStateException();
        }
    }

    private static void element(boolean right) {
        if (!right) {
            throw new NoSuchElementException();
        }
    }

    private void position(int position) {
        index(position >= 0 && position < state.chain.size());
    }

    private List<Note> song(int song) {
        index(song >= 0 && song < 4);
        return state.songs.get(song);
    }

    private Tank tank(int tank) {
        index(tank >= 0 && tank < state.tanks.size());
        return state.tanks.get(tank);
    }

    public int addFilter(char kind, int parameter) {
        return insertFilter(state.chain.size(), kind, parameter);
    }

    public int insertFilter(int position, char kind, int parameter) {
        index(position >= 0 && position <= state.chain.size());
        int place = "gdmcfs".indexOf(kind);
        argument(place >= 0);
        argument(parameter >= new int[] {0, 1, 2, 1, 0, 2}[place] && parameter <= new int[] {200, 8, 8, 999, 0, 99}[place]);
        state(state.chain.size() < 8);
        change();
        state.chain.add(position, new Filter(kind, parameter));
        return state.chain.size();
    }

    public int removeFilter(int position) {
        position(position);
        change();
        return state.chain.remove(position).parameter();
    }

    public int swapFilters(int first, int second) {
        position(first);
        position(second);
        change();
        Filter kept = state.chain.get(first);
        state.chain.set(first, state.chain.get(second));
        state.chain.set(second, kept);
        return Math.max(0, Math.max(first, second) - Math.min(first, second) - 1);
    }

    public int filterCount() {
        return state.chain.size();
    }

    public char filterKind(int position) {
        position(position);
        return state.chain.get(position).kind();
    }

    public int filterParameter(int position) {
        position(position);
        return state.chain.get(position).parameter();
    }

    public int addNote(int song, int period, int amplitude, int length) {
        List<Note> notes = song(song);
        argument(period >= 2 && period <= 20 && amplitude >= 1 && amplitude <= 999 && length >= 1 && length <= 40);
        state(raw(song).size() + length <= 160);
        change();
        notes.add(new Note(period, amplitude, length));
        return raw(song).size();
    }

    public int removeNote(int song) {
        element(song(song).size() > 0);
        change();
        song(song).remove(song(song).size() - 1);
        return raw(song).size();
    }

    public int noteCount(int song) {
        return song(song).size();
    }

    public int songLength(int song) {
        return raw(song).size();
    }

    private List<Long> raw(int song) {
        List<Long> samples = new ArrayList<>();
        for (Note note : song(song)) {
            for (int i = 0; i < note.length(); i++) {
                samples.add((long) (i % note.period() < note.period() / 2 ? note.amplitude() : -note.amplitude()));
            }
        }
        return samples;
    }

    private static long back(List<Long> samples, int index) {
        return index < 0 ? 0 : samples.get(index);
    }

    private List<Long> filtered(int song) {
        List<Long> samples = raw(song);
        for (Filter filter : state.chain) {
            int p = filter.parameter();
            List<Long> given = new ArrayList<>();
            for (int i = 0; i < samples.size(); i++) {
                long sample = samples.get(i);
                long sum = 0;
                for (int j = 0; j < p && filter.kind() == 'm'; j++) {
                    sum += back(samples, i - j);
                }
                switch (filter.kind()) {
                    case 'g': given.add(sample * p / 100); break;
                    case 'd': given.add(back(samples, i - p)); break;
                    case 'm': given.add(sum / p); break;
                    case 'c': given.add(sample > p ? p : sample < -p ? -p : sample); break;
                    case 'f': given.add(-sample); break;
                    default: given.add(sample - sample % p); break;
                }
            }
            samples = given;
        }
        return samples;
    }

    private static int at(List<Long> samples, int index) {
        element(index >= 0 && index < samples.size());
        return (int) (long) samples.get(index);
    }

    public int rawSample(int song, int index) {
        return at(raw(song), index);
    }

    public int sample(int song, int index) {
        return at(filtered(song), index);
    }

    public int sampleByFilter(int song, int index) {
        return at(filtered(song), index);
    }

    public int mixedSample(int first, int second, int index) {
        List<Long> one = filtered(first);
        List<Long> two = filtered(second);
        element(index >= 0 && index < Math.max(one.size(), two.size()));
        long sum = (index < one.size() ? one.get(index) : 0) + (index < two.size() ? two.get(index) : 0);
        return (int) (sum / 2);
    }

    public int peak(int song) {
        element(song(song).size() > 0);
        return loudness(filtered(song));
    }

    private static int loudness(List<Long> samples) {
        return (int) samples.stream().mapToLong(Math::abs).max().orElse(0);
    }

    public long energy(int song) {
        return filtered(song).stream().mapToLong(s -> s * s).sum();
    }

    public int signChanges(int song) {
        List<Long> loud = new ArrayList<>(filtered(song));
        loud.removeIf(s -> s == 0);
        int changes = 0;
        for (int i = 1; i < loud.size(); i++) {
            if (loud.get(i) > 0 != loud.get(i - 1) > 0) {
                changes++;
            }
        }
        return changes;
    }

    public int strongestSong() {
        int best = 3;
        for (int song = 2; song >= 0; song--) {
            best = energy(song) >= energy(best) ? song : best;
        }
        return best;
    }

    public int addTank(int capacity) {
        argument(capacity >= 1 && capacity <= 9);
        state(state.tanks.size() < 4);
        change();
        Tank tank = new Tank();
        tank.capacity = capacity;
        state.tanks.add(tank);
        return state.tanks.size() - 1;
    }

    public int setTuning(int tank, int loudness) {
        int previous = tank(tank).tuning;
        argument(loudness >= 0 && loudness <= 9999);
        change();
        tank(tank).tuning = loudness;
        return previous;
    }

    private List<Integer> frames(int song) {
        List<Long> samples = filtered(song);
        List<Integer> frames = new ArrayList<>();
        for (int i = 0; i < samples.size(); i += 8) {
            frames.add(loudness(samples.subList(i, Math.min(i + 8, samples.size()))));
        }
        return frames;
    }

    private static int pour(State state, List<Integer> frames) {
        int stored = 0;
        for (int loudness : frames) {
            Tank best = null;
            for (Tank tank : state.tanks) {
                boolean accepts = tank.frames.size() < tank.capacity && loudness <= tank.tuning;
                if (accepts && (best == null || tank.capacity - tank.frames.size() > best.capacity - best.frames.size())) {
                    best = tank;
                }
            }
            if (best != null) {
                best.frames.add(loudness);
                stored++;
            }
        }
        state.stored += stored;
        state.dropped += frames.size() - stored;
        return stored;
    }

    public int pour(int song) {
        element(song(song).size() > 0);
        change();
        return pour(state, frames(song));
    }

    public int drain(int tank, int frames) {
        Tank from = tank(tank);
        argument(frames >= 1 && frames <= 9);
        element(frames <= from.frames.size());
        change();
        int greatest = 0;
        for (int i = 0; i < frames; i++) {
            greatest = Math.max(greatest, from.frames.remove(0));
        }
        state.drained += frames;
        return greatest;
    }

    public int tankCount() {
        return state.tanks.size();
    }

    public int capacity(int tank) {
        return tank(tank).capacity;
    }

    public int tuning(int tank) {
        return tank(tank).tuning;
    }

    public int level(int tank) {
        return tank(tank).frames.size();
    }

    public int frameLoudness(int tank, int age) {
        List<Integer> frames = tank(tank).frames;
        element(age >= 0 && age < frames.size());
        return frames.get(age);
    }

    public int frameCount(int song) {
        return frames(song).size();
    }

    public int dropsFor(int song) {
        List<Integer> frames = frames(song);
        return frames.size() - pour(state.copy(), frames);
    }

    public int dropsByLevels(int song) {
        return dropsFor(song);
    }

    public int tankAtRank(int rank) {
        element(rank >= 0 && rank < state.tanks.size());
        List<Tank> sorted = new ArrayList<>(state.tanks);
        sorted.sort(Comparator.comparingInt((Tank t) -> -t.frames.size()).thenComparingInt(t -> t.capacity));
        return state.tanks.indexOf(sorted.get(rank));
    }

    public int storedTotal() {
        return state.stored;
    }

    public int droppedTotal() {
        return state.dropped;
    }

    public int drainedTotal() {
        return state.drained;
    }

    public int append(char character) {
        argument(character >= 32 && character <= 126);
        state(text.length() < 60);
        text += character;
        return text.length();
    }

    /** A text can go on to a command text if it is one, or if the matcher wanted more of it. */
    private static boolean canGoOn(String start) {
        Matcher matcher = TEXT.matcher(start);
        return matcher.matches() || matcher.hitEnd();
    }

    public int run() {
        String all = text;
        text = "";
        if (!TEXT.matcher(all).matches()) {
            IntPredicate fits = end -> canGoOn(all.substring(0, end));
            error = 0;
            while (error < all.length() && fits.test(error + 1)) {
                error++;
            }
            throw new IllegalArgumentException();
        }
        State before = state.copy();
        String[] commands = all.split(";");
        for (int i = 0; i < commands.length; i++) {
            running = true;
            try {
                carryOut(commands[i].split(" "));
            } catch (RuntimeException thrown) {
                state = before;
                failed = i;
                throw new IllegalStateException();
            } finally {
                running = false;
            }
        }
        State after = state;
        state = before;
        change();
        state = after;
        return commands.length;
    }

    private void carryOut(String[] words) {
        int[] n = new int[5];
        for (int i = 1; i < words.length; i++) {
            n[i] = Integer.parseInt(words[i]);
        }
        switch (words[0]) {
            case "remove": removeFilter(n[1]); break;
            case "note": addNote(n[1], n[2], n[3], n[4]); break;
            case "tank": addTank(n[1]); break;
            case "tune": setTuning(n[1], n[2]); break;
            case "pour": pour(n[1]); break;
            case "drain": drain(n[1], n[2]); break;
            default: addFilter(words[0].charAt(0), n[1]); break;
        }
    }

    public int errorPosition() {
        element(error >= 0);
        return error;
    }

    public int failedCommand() {
        element(failed >= 0);
        return failed;
    }

    public int describeChain() {
        List<String> parts = new ArrayList<>();
        for (Filter filter : state.chain) {
            parts.add(filter.kind() == 'f' ? "f" : "" + filter.kind() + filter.parameter());
        }
        line = String.join(">", parts);
        return line.length();
    }

    public int describeTank(int tank) {
        Tank told = tank(tank);
        line = told.frames.size() + "/" + told.capacity + (told.tuning == 9999 ? "" : "@" + told.tuning);
        for (int frame : told.frames) {
            line += " " + frame;
        }
        return line.length();
    }

    public char lineAt(int index) {
        index(index >= 0 && index < line.length());
        return line.charAt(index);
    }

    public double meanLevel(int song) {
        List<Long> samples = filtered(song);
        if (samples.isEmpty()) {
            throw new ArithmeticException();
        }
        return (double) samples.stream().mapToLong(Math::abs).sum() / (double) samples.size();
    }

    public float filledShare() {
        if (state.tanks.isEmpty()) {
            throw new ArithmeticException();
        }
        int levels = state.tanks.stream().mapToInt(t -> t.frames.size()).sum();
        int capacities = state.tanks.stream().mapToInt(t -> t.capacity).sum();
        return (float) levels / (float) capacities;
    }

    public boolean isConsistent() {
        return true;
    }

    public int undo() {
        state(!changes.isEmpty());
        state = changes.pop();
        return changes.size();
    }

    public int save() {
        saved = state.copy();
        return state.chain.size();
    }

    public int restore() {
        state(saved != null);
        state = saved.copy();
        changes.clear();
        return state.chain.size();
    }
}
