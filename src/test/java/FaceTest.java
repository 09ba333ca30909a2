import java.lang.reflect.Constructor;
import java.lang.reflect.Field;
import java.lang.reflect.Method;
import java.lang.reflect.Modifier;
import java.util.ArrayList;
import java.util.HashSet;
import java.util.List;
import java.util.Set;
import java.util.TreeSet;

/** The public face that the document prints, and nothing beside it. */
public final class FaceTest {
    private static final Checks checks = new Checks();
    private static final String[] FACE = {
        "int addMember(int, int, int, int) IllegalArgumentException IllegalStateException",
        "int wind(int, int) IndexOutOfBoundsException IllegalArgumentException IllegalStateException",
        "int tune(int, int) IndexOutOfBoundsException IllegalArgumentException",
        "int buyShares(int, int) IndexOutOfBoundsException IllegalArgumentException"
            + " IllegalStateException UnsupportedOperationException",
        "int passBeats(int) IllegalArgumentException",
        "int endQuarter() IllegalStateException",
        "boolean vote(int, int) IllegalArgumentException",
        "int memberCount()",
        "int shares(int) IndexOutOfBoundsException",
        "int spring(int) IndexOutOfBoundsException",
        "int tone(int) IndexOutOfBoundsException",
        "int purse(int) IndexOutOfBoundsException",
        "int dissents(int) IndexOutOfBoundsException",
        "int interval(int, int) IndexOutOfBoundsException",
        "int memberAtRank(int) NoSuchElementException",
        "long dueBeats(int) IndexOutOfBoundsException",
        "long dueBeatsByDoubling(int) IndexOutOfBoundsException",
        "int commonBeats(int, int) IndexOutOfBoundsException",
        "int beatsUntilChorus() NoSuchElementException",
        "int earningsIn(int) IllegalArgumentException",
        "int dividend(int) IndexOutOfBoundsException",
        "int dividendByCounting(int) IndexOutOfBoundsException",
        "int sharesInFavour(int, int) IllegalArgumentException",
        "int carriedTone(int) IllegalArgumentException NoSuchElementException",
        "int quota()",
        "int winningGroups()",
        "int winningGroupsByTable()",
        "int power(int) IndexOutOfBoundsException",
        "int powerByTable(int) IndexOutOfBoundsException",
        "int smallestMajority() NoSuchElementException",
        "int beat()",
        "int surplus()",
        "int houseTone()",
        "int quarters()",
        "int coinTotal()",
        "int coinsByAccounts()",
        "int chirps()",
        "int spoiltBeat(int) IndexOutOfBoundsException",
        "double meanPurse() ArithmeticException",
        "float powerShare(int) IndexOutOfBoundsException",
        "boolean isConsistent()",
        "int append(char) IllegalStateException",
        "int run() IllegalArgumentException UnsupportedOperationException",
        "int errorPosition() NoSuchElementException",
        "int failedCommand() NoSuchElementException",
        "int writeMember(int) IndexOutOfBoundsException",
        "char outputAt(int) IndexOutOfBoundsException",
        "int undo() IllegalStateException",
        "void save()",
        "void restore() IllegalStateException"
    };

    public static void main(String[] args) {
        checks.test("the class is public and final", FaceTest::theClass);
        checks.test("the constructor", FaceTest::constructors);
        checks.test("the methods of the face, with their exceptions", FaceTest::methods);
        checks.test("no other visible member", FaceTest::otherMembers);
        checks.test("no private method bears the name of a public one", FaceTest::names);
        checks.test("the classes inside are static and not public", FaceTest::classesInside);
        checks.end();
    }

    private static void theClass() {
        int modifiers = CricketCooperative.class.getModifiers();
        checks.same("public final", Modifier.PUBLIC | Modifier.FINAL, modifiers);
        checks.same("superclass", Object.class, CricketCooperative.class.getSuperclass());
        checks.same("interfaces", 0, CricketCooperative.class.getInterfaces().length);
    }

    private static void constructors() {
        Constructor<?>[] all = CricketCooperative.class.getDeclaredConstructors();
        checks.same("constructors", 1, all.length);
        checks.same("public", Modifier.PUBLIC, all[0].getModifiers());
        checks.same("parameters", 0, all[0].getParameterCount());
        checks.same("exceptions", 0, all[0].getExceptionTypes().length);
    }

    private static List<Method> visibleMethods() {
        List<Method> visible = new ArrayList<>();
        for (Method method : CricketCooperative.class.getDeclaredMethods()) {
            if (!Modifier.isPrivate(method.getModifiers())) {
                visible.add(method);
            }
        }
        return visible;
    }

    private static String signature(Method method) {
        StringBuilder text = new StringBuilder(method.getReturnType().getName());
        text.append(' ').append(method.getName()).append('(');
        for (Class<?> type : method.getParameterTypes()) {
            text.append(text.charAt(text.length() - 1) == '(' ? "" : ", ").append(type.getName());
        }
        text.append(')');
        for (Class<?> type : method.getExceptionTypes()) {
            text.append(' ').append(type.getSimpleName());
        }
        return text.toString();
    }

    private static void methods() {
        Set<String> found = new TreeSet<>();
        for (Method method : visibleMethods()) {
            checks.same(method.getName() + " is public", Modifier.PUBLIC, method.getModifiers());
            found.add(signature(method));
        }
        checks.same("the face", new TreeSet<>(List.of(FACE)), found);
    }

    private static void otherMembers() {
        for (Field field : CricketCooperative.class.getDeclaredFields()) {
            checks.same(field.getName() + " is private", true,
                    Modifier.isPrivate(field.getModifiers()));
        }
    }

    private static void names() {
        Set<String> visible = new HashSet<>();
        for (Method method : visibleMethods()) {
            visible.add(method.getName());
        }
        List<Class<?>> classes = new ArrayList<>(List.of(CricketCooperative.class.getDeclaredClasses()));
        classes.add(CricketCooperative.class);
        for (Class<?> type : classes) {
            for (Method method : type.getDeclaredMethods()) {
                boolean ofTheFace = type == CricketCooperative.class
                        && !Modifier.isPrivate(method.getModifiers());
                checks.same(type.getName() + "." + method.getName() + " bears a name of the face",
                        false, !ofTheFace && visible.contains(method.getName()));
            }
        }
    }

    private static void classesInside() {
        for (Class<?> type : CricketCooperative.class.getDeclaredClasses()) {
            int modifiers = type.getModifiers();
            checks.same(type.getName() + " is static", true, Modifier.isStatic(modifiers));
            checks.same(type.getName() + " is visible outside", false,
                    Modifier.isPublic(modifiers) || Modifier.isProtected(modifiers));
            for (Field field : type.getDeclaredFields()) {
                checks.same(field.getName() + " is static and not final", false,
                        Modifier.isStatic(field.getModifiers())
                        && !Modifier.isFinal(field.getModifiers()));
            }
        }
    }
}
