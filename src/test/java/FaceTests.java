import java.lang.reflect.Constructor;
import java.lang.reflect.Field;
import java.lang.reflect.Method;
import java.lang.reflect.Modifier;
import java.util.Arrays;
import java.util.Set;
import java.util.TreeSet;

/** The class's face is the document's, and nothing more of it can be seen from outside. */
final class FaceTests {
    private static final String[] FACE = {
        "int addFilter(char,int) IAE ISE", "int insertFilter(int,char,int) IOOBE IAE ISE", "int removeFilter(int) IOOBE",
        "int swapFilters(int,int) IOOBE", "int filterCount()", "char filterKind(int) IOOBE",
        "int filterParameter(int) IOOBE", "int addNote(int,int,int,int) IOOBE IAE ISE", "int removeNote(int) IOOBE NSEE",
        "int noteCount(int) IOOBE", "int songLength(int) IOOBE", "int rawSample(int,int) IOOBE NSEE",
        "int sample(int,int) IOOBE NSEE", "int sampleByFilter(int,int) IOOBE NSEE",
        "int mixedSample(int,int,int) IOOBE NSEE", "int peak(int) IOOBE NSEE", "long energy(int) IOOBE",
        "int signChanges(int) IOOBE", "int strongestSong()", "int addTank(int) IAE ISE", "int setTuning(int,int) IOOBE IAE",
        "int pour(int) IOOBE NSEE", "int drain(int,int) IOOBE IAE NSEE", "int tankCount()", "int capacity(int) IOOBE",
        "int tuning(int) IOOBE", "int level(int) IOOBE", "int frameLoudness(int,int) IOOBE NSEE",
        "int frameCount(int) IOOBE", "int dropsFor(int) IOOBE", "int dropsByLevels(int) IOOBE", "int tankAtRank(int) NSEE",
        "int storedTotal()", "int droppedTotal()", "int drainedTotal()", "int append(char) IAE ISE", "int run() IAE ISE",
        "int errorPosition() NSEE", "int failedCommand() NSEE", "int describeChain()", "int describeTank(int) IOOBE",
        "char lineAt(int) IOOBE", "double meanLevel(int) IOOBE AE", "float filledShare() AE", "boolean isConsistent()",
        "int undo() ISE", "int save()", "int restore() ISE"
    };

    private FaceTests() {
    }

    static void all() {
        Check.test("the face: methods", FaceTests::methods);
        Check.test("the face: nothing else to be seen", FaceTests::nothingElse);
        Check.test("the face: no inner method has a public one's name", FaceTests::noNameTwice);
    }

    private static String signature(Method method) {
        StringBuilder text = new StringBuilder(method.getReturnType().getName()).append(' ').append(method.getName()).append('(');
        String comma = "";
        for (Class<?> type : method.getParameterTypes()) {
            text.append(comma).append(type.getName());
            comma = ",";
        }
        text.append(')');
        for (Class<?> type : method.getExceptionTypes()) {
            text.append(' ').append(type.getSimpleName().replaceAll("[a-z]", ""));
        }
        return text.toString();
    }

    private static void methods() {
        Set<String> got = new TreeSet<>();
        for (Method method : SongRefinery.class.getDeclaredMethods()) {
            if (!Modifier.isPrivate(method.getModifiers())) {
                got.add(signature(method));
                Check.dueTrue(method.getName() + " is public and no static method", method.getModifiers() == Modifier.PUBLIC);
            }
        }
        Check.due("the methods", String.join("\n", got), String.join("\n", new TreeSet<>(Arrays.asList(FACE))));
    }

    private static void nothingElse() {
        Check.due("the class's modifiers", SongRefinery.class.getModifiers(), Modifier.PUBLIC | Modifier.FINAL);
        Constructor<?>[] constructors = SongRefinery.class.getDeclaredConstructors();
        Check.due("the constructors", constructors.length, 1);
        Check.due("the constructor's modifiers", constructors[0].getModifiers(), Modifier.PUBLIC);
        Check.due("the constructor's parameters", constructors[0].getParameterCount(), 0);
        for (Field field : SongRefinery.class.getDeclaredFields()) {
            Check.dueTrue(field.getName() + " is private", Modifier.isPrivate(field.getModifiers()));
            Check.dueTrue(field.getName() + " is final if it is static",
                !Modifier.isStatic(field.getModifiers()) || Modifier.isFinal(field.getModifiers()));
        }
    }

    private static void noNameTwice() {
        Set<String> names = new TreeSet<>();
        int declared = 0;
        for (Method method : SongRefinery.class.getDeclaredMethods()) {
            if (Modifier.isPublic(method.getModifiers())) {
                names.add(method.getName());
                declared++;
            }
        }
        Check.due("the public names", names.size(), declared);
        for (Method method : SongRefinery.class.getDeclaredMethods()) {
            Check.dueTrue(method.getName() + " is public or has its own name",
                Modifier.isPublic(method.getModifiers()) || !names.contains(method.getName()));
        }
        for (Class<?> inner : SongRefinery.class.getDeclaredClasses()) {
            for (Method method : inner.getDeclaredMethods()) {
                Check.dueTrue(inner.getName() + "." + method.getName() + " has its own name", !names.contains(method.getName()));
            }
        }
    }
}
