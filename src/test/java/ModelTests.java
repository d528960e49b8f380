import java.lang.reflect.InvocationTargetException;
import java.lang.reflect.Method;
import java.lang.reflect.Modifier;
import java.util.Arrays;
import java.util.Comparator;
import java.util.Random;

/** Random runs of 512 calls (with fixed seeds) answer as the model does. */
final class ModelTests {
    private static final int RUNS = 400;
    private static final int CALLS = 512;
    private static final String[] COMMON = {"addFilter", "insertFilter", "addNote", "addNote", "addNote", "addTank", "setTuning",
        "pour", "pour", "drain", "text", "text", "text", "undo", "sample", "sampleByFilter", "dropsFor", "dropsByLevels"};

    private final Random random;
    private final SongRefinery real = new SongRefinery();
    private final Model model = new Model();
    private final StringBuilder told = new StringBuilder();
    private int calls = 0;
    private boolean agree = true;

    private ModelTests(long seed) {
        random = new Random(seed);
    }

    static void all() {
        Method[] methods = Arrays.stream(SongRefinery.class.getDeclaredMethods())
            .filter(m -> Modifier.isPublic(m.getModifiers())).sorted(Comparator.comparing(Method::getName)).toArray(Method[]::new);
        for (int seed = 1; seed <= RUNS; seed++) {
            long number = seed;
            Check.test("1 to 49, random run " + seed, () -> new ModelTests(number).go(methods));
        }
    }

    private void go(Method[] methods) throws Exception {
        while (calls < CALLS && agree) {
            String name = random.nextInt(2) == 0 ? COMMON[random.nextInt(COMMON.length)] : methods[random.nextInt(methods.length)].getName();
            if (name.equals("text")) {
                runText(methods);
            } else if (!name.equals("restore") || random.nextInt(4) == 0) {
                both(methods, name);
            }
        }
        if (!agree) {
            Check.due("the run", told.toString(), "the same as the model's");
        }
    }

    private void both(Method[] methods, String name) throws Exception {
        for (Method method : methods) {
            if (method.getName().equals(name)) {
                call(method, arguments(method));
            }
        }
    }

    private void call(Method method, Object[] arguments) throws Exception {
        if (calls >= CALLS) {
            return;
        }
        calls++;
        Object got = answer(real, method, arguments);
        Method same = Model.class.getDeclaredMethod(method.getName(), method.getParameterTypes());
        Object want = answer(model, same, arguments);
        told.append(method.getName()).append(Arrays.toString(arguments)).append(" = ").append(got).append("; ");
        if (!got.equals(want)) {
            agree = false;
            told.append("but due is ").append(want);
        }
    }

    private static Object answer(Object object, Method method, Object[] arguments) throws Exception {
        try {
            return method.invoke(object, arguments);
        } catch (InvocationTargetException thrown) {
            return thrown.getCause().getClass();
        }
    }

    private Object[] arguments(Method method) {
        String name = method.getName();
        switch (name) {
            case "addFilter": return filter();
            case "insertFilter": Object[] filter = filter(); return new Object[] {near(-1, 8), filter[0], filter[1]};
            case "addNote": return new Object[] {near(0, 3), near(2, 20), near(1, 999), random.nextInt(3) > 0 ? near(1, 12) : near(1, 40)};
            case "addTank": return new Object[] {near(1, 9)};
            case "setTuning": return new Object[] {near(0, 3), near(0, random.nextInt(4) == 0 ? 9999 : 1200)};
            case "drain": return new Object[] {near(0, 3), near(1, random.nextInt(3) == 0 ? 9 : 2)};
            case "append": return new Object[] {(char) near(32, 126)};
            default: break;
        }
        Object[] values = new Object[method.getParameterCount()];
        boolean byIndex = name.toLowerCase().contains("sample");
        for (int i = 0; i < values.length; i++) {
            boolean isIndex = byIndex && i == values.length - 1;
            values[i] = isIndex ? near(0, random.nextInt(2) == 0 ? 20 : 159) : name.equals("lineAt") ? near(0, 20) : near(0, 4);
        }
        return values;
    }

    /** Mostly from the range, sometimes beside it or far away. */
    private int near(int least, int greatest) {
        switch (random.nextInt(24)) {
            case 0: return least - 1;
            case 1: return greatest + 1;
            case 2: return random.nextInt(8) == 0 ? random.nextInt() : least;
            case 3: return greatest;
            default: return least + random.nextInt(greatest - least + 1);
        }
    }

    private Object[] filter() {
        int kind = random.nextInt(6);
        int[] least = {0, 1, 2, 1, 0, 2};
        int[] greatest = {200, 8, 8, 999, 0, 99};
        char sign = random.nextInt(30) == 0 ? (char) random.nextInt(256) : "gdmcfs".charAt(kind);
        return new Object[] {sign, near(least[kind], greatest[kind])};
    }

    private String command() {
        Object[] filter = filter();
        switch (random.nextInt(9)) {
            case 0: return "remove " + digit();
            case 1: return "note " + near(0, 3) + " " + near(2, 20) + " " + near(1, 999) + " " + near(1, 40);
            case 2: return "tank " + near(1, 9);
            case 3: return "tune " + near(0, 3) + " " + near(0, 999);
            case 4: return "pour " + near(0, 3);
            case 5: return "drain " + near(0, 3) + " " + near(1, 3);
            case 6: return "flip";
            default: break;
        }
        String[] names = {"gain", "delay", "mean", "clip", "flip", "step"};
        int place = "gdmcfs".indexOf((Character) filter[0]);
        return place < 0 ? "gain 7" : place == 4 ? "flip" : names[place] + " " + filter[1];
    }

    private int digit() {
        return random.nextInt(3) > 0 ? random.nextInt(3) : random.nextInt(10);
    }

    private void runText(Method[] methods) throws Exception {
        StringBuilder text = new StringBuilder(command());
        int further = random.nextInt(4);
        for (int i = 0; i < further; i++) {
            text.append(';').append(command());
        }
        if (random.nextInt(4) == 0) {
            spoil(text);
        }
        for (Method method : methods) {
            if (method.getName().equals("append")) {
                for (int i = 0; i < text.length(); i++) {
                    call(method, new Object[] {text.charAt(i)});
                }
            }
        }
        for (String name : new String[] {"run", "errorPosition", "failedCommand"}) {
            both(methods, name);
        }
    }

    private void spoil(StringBuilder text) {
        int place = random.nextInt(text.length());
        switch (random.nextInt(4)) {
            case 0: text.deleteCharAt(place); break;
            case 1: text.insert(place, "0 ;aeilnoprtu5".charAt(random.nextInt(14))); break;
            case 2: text.setCharAt(place, "0 ;aeilnoprtu5".charAt(random.nextInt(14))); break;
            default: text.setLength(place); break;
        }
    }
}
