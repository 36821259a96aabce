import java.lang.reflect.Constructor;
import java.lang.reflect.Field;
import java.lang.reflect.Method;
import java.lang.reflect.Modifier;
import java.util.Arrays;
import java.util.Set;
import java.util.TreeSet;
import java.util.stream.Collectors;

/** The public face of the document, signature by signature, and that there is nothing else to be seen. */
public final class FaceTest {
    private static final String FACE = """
            int feed(int,int,int,int,int)
            int load(int) IllegalArgumentException
            int errorPosition()
            int driverCount()
            int commandCount()
            int requestCount()
            int clock()
            int classOf(int) NoSuchElementException
            int timeOf(int) NoSuchElementException
            int submit(int,int,int,int,int) NoSuchElementException,IllegalArgumentException
            int cancel(int) NoSuchElementException
            int plan(int,int,int) NoSuchElementException,IllegalArgumentException
            int kill(int) NoSuchElementException
            int replace(int) NoSuchElementException
            int takeSnapshot(int) NoSuchElementException
            int poke(int,int,int) NoSuchElementException,IllegalArgumentException
            int run(int) IllegalArgumentException
            int driverState(int) NoSuchElementException
            int downUntil(int) NoSuchElementException
            int streak(int) NoSuchElementException
            int register(int,int) NoSuchElementException
            int variable(int,int) NoSuchElementException
            int saved(int,int) NoSuchElementException
            int logSize(int) NoSuchElementException
            int logged(int,int) NoSuchElementException
            int inFlight(int) NoSuchElementException
            int nextRequest(int) NoSuchElementException
            int queued(int) NoSuchElementException
            int request(int,int) NoSuchElementException
            int recordCount()
            int record(int,int) NoSuchElementException
            int total(int)
            double availability(int) NoSuchElementException
            float meanTime(int) NoSuchElementException
            int forecast(int) NoSuchElementException
            int bestDelay(int) IllegalArgumentException
            int decision(int) NoSuchElementException
            int undoCount()
            int undo()
            void saveState()
            boolean restoreState()
            int query(int) IllegalArgumentException
            """;

    private FaceTest() {
    }

    public static void main(String[] args) {
        Check.due("NONE", -1, () -> DriverHost.NONE);
        Check.due("HIDDEN", -1000000000, () -> DriverHost.HIDDEN);
        Check.due("public and final", true, () -> {
            int modifiers = DriverHost.class.getModifiers();
            return Modifier.isPublic(modifiers) && Modifier.isFinal(modifiers);
        });
        Set<String> methods = new TreeSet<>();
        Set<String> publicNames = new TreeSet<>();
        Set<String> privateNames = new TreeSet<>();
        for (Method method : DriverHost.class.getDeclaredMethods()) {
            if (Modifier.isPrivate(method.getModifiers())) {
                privateNames.add(method.getName());
            } else {
                methods.add(signature(method));
                publicNames.add(method.getName());
            }
        }
        Check.due("methods", new TreeSet<>(Arrays.asList(FACE.split("\n"))), () -> methods);
        Check.due("no private method bears the name of a public one", false,
                () -> privateNames.stream().anyMatch(publicNames::contains));
        Set<String> fields = new TreeSet<>();
        for (Field field : DriverHost.class.getDeclaredFields()) {
            if (!Modifier.isPrivate(field.getModifiers())) {
                fields.add(Modifier.toString(field.getModifiers()) + " " + field.getName());
            }
        }
        Check.due("fields", Set.of("public static final NONE", "public static final HIDDEN"), () -> fields);
        Constructor<?>[] constructors = DriverHost.class.getDeclaredConstructors();
        Check.due("constructors", 1, () -> constructors.length);
        Check.due("constructor", "public DriverHost()", () -> constructors[0].toString());
        Check.close("FaceTest");
    }

    private static String signature(Method method) {
        String parameters = names(method.getParameterTypes());
        String exceptions = names(method.getExceptionTypes());
        String head = method.getReturnType() + " " + method.getName() + "(" + parameters + ")";
        return exceptions.isEmpty() ? head : head + " " + exceptions;
    }

    private static String names(Class<?>[] classes) {
        return Arrays.stream(classes).map(Class::getSimpleName).collect(Collectors.joining(","));
    }
}
