import java.lang.reflect.Constructor;
import java.lang.reflect.Field;
import java.lang.reflect.Method;
import java.lang.reflect.Modifier;
import java.util.Arrays;
import java.util.TreeSet;

/** The public face: the document's calls with their exceptions, and nothing else to be seen. */
public final class FaceTest {
    private static final String[] FACE = {
        "int setRoom(int,int,int) throws IllegalArgumentException",
        "int setGap(int) throws IllegalArgumentException",
        "int seatsOf(int) throws IllegalArgumentException",
        "int houseOf(int) throws IllegalArgumentException",
        "int ask(int,int,int,int,int) throws IllegalArgumentException,IllegalStateException,"
                + "UnsupportedOperationException",
        "int extend(int,int,int) throws NoSuchElementException,IllegalArgumentException,"
                + "IllegalStateException,UnsupportedOperationException",
        "int remove(int) throws NoSuchElementException",
        "char answer(int,int,char) throws NoSuchElementException,IllegalArgumentException,"
                + "IllegalStateException,UnsupportedOperationException",
        "int cancel(int,int) throws NoSuchElementException,IndexOutOfBoundsException,"
                + "IllegalStateException",
        "int move(int,int,int,int) throws NoSuchElementException,IndexOutOfBoundsException,"
                + "IllegalArgumentException,UnsupportedOperationException",
        "int meetingCount()",
        "int meetingAt(int) throws NoSuchElementException",
        "int hostOf(int) throws NoSuchElementException",
        "char answerOf(int,int) throws NoSuchElementException,IllegalArgumentException",
        "int expected(int) throws NoSuchElementException",
        "int dateCount(int) throws NoSuchElementException",
        "int dayOf(int,int) throws NoSuchElementException,IndexOutOfBoundsException",
        "int timeOf(int,int) throws NoSuchElementException,IndexOutOfBoundsException",
        "boolean isCancelled(int,int) throws NoSuchElementException,IndexOutOfBoundsException",
        "int roomOf(int,int) throws NoSuchElementException,IndexOutOfBoundsException,"
                + "IllegalStateException",
        "int refusalReason() throws NoSuchElementException",
        "int refusalDetail() throws NoSuchElementException",
        "boolean isFree(int,int,int) throws IllegalArgumentException",
        "int meetingOf(int,int,int) throws IllegalArgumentException,NoSuchElementException",
        "int freeTimes(int,int) throws IllegalArgumentException",
        "int freeByTrying(int,int) throws IllegalArgumentException",
        "int longestFree(int,int) throws IllegalArgumentException",
        "int firstCommon(int,int,int) throws IllegalArgumentException,NoSuchElementException",
        "int commonCount(int,int,int) throws IllegalArgumentException",
        "int roomFor(int,int,int,int) throws IllegalArgumentException,NoSuchElementException",
        "int usedTimes(int,int) throws IllegalArgumentException",
        "int walks(int,int) throws IllegalArgumentException",
        "long sittings()",
        "double meanExpected() throws ArithmeticException",
        "float yesShare() throws ArithmeticException",
        "boolean isConsistent()",
    };

    private static final Checks checks = new Checks("FaceTest");

    public static void main(String[] args) {
        Class<?> planner = CalendaryPlanner.class;
        checks.due("the class", Modifier.PUBLIC | Modifier.FINAL, planner.getModifiers());
        Constructor<?>[] constructors = planner.getDeclaredConstructors();
        checks.due("constructors", 1, constructors.length);
        checks.due("the constructor", "public CalendaryPlanner()",
                constructors[0].toGenericString());
        TreeSet<String> seen = new TreeSet<>();
        TreeSet<String> names = new TreeSet<>();
        for (Method method : planner.getDeclaredMethods()) {
            if (!Modifier.isPrivate(method.getModifiers())) {
                seen.add(faceOf(method));
                names.add(method.getName());
            }
        }
        checks.due("the methods", new TreeSet<>(Arrays.asList(FACE)), seen);
        hiddenMembers(planner, names);
        checks.end();
    }

    private static String faceOf(Method method) {
        return method.toGenericString().replace("public ", "").replace("CalendaryPlanner.", "")
                .replace("java.lang.", "").replace("java.util.", "");
    }

    /** Nothing else can be seen, and no hidden method bears the name of one of the face. */
    private static void hiddenMembers(Class<?> planner, TreeSet<String> names) {
        for (Method method : planner.getDeclaredMethods()) {
            boolean hidden = Modifier.isPrivate(method.getModifiers());
            checks.due("hidden under a name of the face: " + method, false,
                    hidden && names.contains(method.getName()));
        }
        for (Field field : planner.getDeclaredFields()) {
            checks.due("hidden: " + field, true, Modifier.isPrivate(field.getModifiers()));
        }
        for (Class<?> inside : planner.getDeclaredClasses()) {
            int modifiers = inside.getModifiers();
            checks.due("neither public nor protected: " + inside, 0,
                    modifiers & (Modifier.PUBLIC | Modifier.PROTECTED));
            checks.due("static: " + inside, true, Modifier.isStatic(modifiers));
        }
    }
}
