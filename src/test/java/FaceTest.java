import java.lang.reflect.Constructor;
import java.lang.reflect.Field;
import java.lang.reflect.Member;
import java.lang.reflect.Method;
import java.lang.reflect.Modifier;
import java.util.ArrayList;
import java.util.Collections;
import java.util.List;
import java.util.Set;
import java.util.TreeSet;

/** The public face: every constant, the constructor and every method as the document declares it, and nothing else. */
final class FaceTest {
    private static final String IOOBE = " throws IndexOutOfBoundsException";
    private static final String IAE = " throws IllegalArgumentException";
    private static final String ISE = " throws IllegalStateException";
    private static final String BAD_INDEX_OR_ARGUMENT = IOOBE + ",IllegalArgumentException";
    private static final String BAD_INDEX_OR_STATE = IOOBE + ",IllegalStateException";
    private static final String ALL_THREE = BAD_INDEX_OR_ARGUMENT + ",IllegalStateException";

    private static final String[] METHODS = {
        "int append(int,int,int,int,int)" + ISE, "int truncate(int)" + IAE, "int errorCode()", "int errorPosition()",
        "int loadSetup()" + IAE, "int runScript()" + IAE, "int addKite(int,int,int,int,int,int)" + ALL_THREE,
        "int launch(int)" + BAD_INDEX_OR_STATE, "int land(int)" + BAD_INDEX_OR_STATE, "int passHours(int)" + IAE,
        "int permit(int,int,int)" + ALL_THREE, "int cancelPermits(int)" + IOOBE, "int tieKnots(int,int)" + ALL_THREE,
        "int repair(int)" + BAD_INDEX_OR_STATE, "int fund(int,int)" + BAD_INDEX_OR_ARGUMENT,
        "int undo() throws NoSuchElementException", "void saveSnapshot(int)" + IAE,
        "int restoreSnapshot(int)" + IAE + ",NoSuchElementException",
        "int hour()", "int width()", "int height()", "int fee()", "int fine()", "int zoneCount()",
        "int windDirection(int,int)" + BAD_INDEX_OR_ARGUMENT, "int windForce(int,int)" + BAD_INDEX_OR_ARGUMENT,
        "int colourCount()", "int quota(int)" + IOOBE, "int quotaUsed(int,int)" + BAD_INDEX_OR_ARGUMENT,
        "int kiteCount()", "int anchorX(int)" + IOOBE, "int anchorY(int)" + IOOBE, "int stringLength(int)" + IOOBE,
        "int colourOf(int)" + IOOBE, "int knots(int)" + IOOBE, "int purse(int)" + IOOBE, "int stateOf(int)" + IOOBE,
        "int zoneOf(int)" + IOOBE, "int tangles(int)" + IOOBE, "int reach(int,int)" + BAD_INDEX_OR_ARGUMENT,
        "int endX(int,int)" + BAD_INDEX_OR_ARGUMENT, "int endY(int,int)" + BAD_INDEX_OR_ARGUMENT,
        "boolean canFly(int,int)" + BAD_INDEX_OR_ARGUMENT, "boolean doCross(int,int,int)" + BAD_INDEX_OR_ARGUMENT,
        "int permitCount()", "int permitKite(int)" + IOOBE, "int permitStart(int)" + IOOBE,
        "int permitDuration(int)" + IOOBE, "boolean hasPermit(int,int)" + BAD_INDEX_OR_ARGUMENT,
        "int whyNotPermit(int,int,int)" + BAD_INDEX_OR_ARGUMENT, "int kiteInTheWay(int,int,int)" + BAD_INDEX_OR_ARGUMENT,
        "int earliestStart(int,int)" + BAD_INDEX_OR_ARGUMENT, "int bestKnots(int,int)" + BAD_INDEX_OR_ARGUMENT,
        "int guiltyKite(int,int)" + ALL_THREE, "int verdictsIn(int)" + IAE, "int officeCoins()", "int coinError()",
        "int permittedCrossings()", "double meanReach()", "float tangledShare()", "int writePermits()",
        "int outputByte(int)",
    };

    private FaceTest() {
    }

    private static String names(Class<?>[] types) {
        List<String> names = new ArrayList<>();
        for (Class<?> type : types) {
            names.add(type.getSimpleName());
        }
        return String.join(",", names);
    }

    private static boolean isPrivate(Member member) {
        return Modifier.isPrivate(member.getModifiers());
    }

    private static void checkMethods() {
        List<String> found = new ArrayList<>();
        for (Method method : KitePermits.class.getDeclaredMethods()) {
            if (!isPrivate(method)) {
                String thrown = names(method.getExceptionTypes());
                found.add(method.getReturnType().getSimpleName() + " " + method.getName() + "("
                        + names(method.getParameterTypes()) + ")" + (thrown.isEmpty() ? "" : " throws " + thrown));
                Check.same(method.getName() + " is public and no more", method.getModifiers(), Modifier.PUBLIC);
            }
        }
        List<String> due = new ArrayList<>(List.of(METHODS));
        Collections.sort(found);
        Collections.sort(due);
        Check.same("the methods", String.join("\n", found), String.join("\n", due));
        Check.same("the number of methods", due.size(), 62);
    }

    private static void checkNames() {
        Set<String> face = new TreeSet<>();
        for (Method method : KitePermits.class.getDeclaredMethods()) {
            if (!isPrivate(method)) {
                face.add(method.getName());
            }
        }
        for (Method method : KitePermits.class.getDeclaredMethods()) {
            Check.same(method.getName() + " is a private name", isPrivate(method) && face.contains(method.getName()), false);
        }
        for (Class<?> inside : KitePermits.class.getDeclaredClasses()) {
            for (Method method : inside.getDeclaredMethods()) {
                Check.same(inside.getSimpleName() + "." + method.getName() + " is a name of the face", face.contains(method.getName()), false);
            }
            Check.same(inside.getSimpleName() + " is static", Modifier.isStatic(inside.getModifiers()), true);
            Check.same(inside.getSimpleName() + " is public", Modifier.isPublic(inside.getModifiers()), false);
        }
    }

    private static void checkFields() throws IllegalAccessException {
        String[] constants = {"NONE", "SYNTAX", "RANGE", "LIMIT"};
        int[] values = {-1, 1, 2, 3};
        int found = 0;
        for (Field field : KitePermits.class.getDeclaredFields()) {
            if (Modifier.isStatic(field.getModifiers())) {
                Check.same(field.getName() + " is final", Modifier.isFinal(field.getModifiers()), true);
            }
            for (int i = 0; i < constants.length; i++) {
                if (field.getName().equals(constants[i])) {
                    found++;
                    Check.same(constants[i], field.getInt(null), values[i]);
                    Check.same(constants[i] + " is public static final", field.getModifiers(),
                            Modifier.PUBLIC | Modifier.STATIC | Modifier.FINAL);
                }
            }
        }
        Check.same("the constants", found, 4);
        Check.same("the public fields", KitePermits.class.getFields().length, 4);
        for (Field field : KitePermits.class.getDeclaredFields()) {
            Check.same(field.getName() + " is hidden or public", isPrivate(field) || Modifier.isPublic(field.getModifiers()), true);
        }
    }

    public static void main(String[] args) throws IllegalAccessException {
        checkMethods();
        checkNames();
        checkFields();
        Check.same("the class is public and final", KitePermits.class.getModifiers(), Modifier.PUBLIC | Modifier.FINAL);
        Constructor<?>[] constructors = KitePermits.class.getDeclaredConstructors();
        Check.same("the constructors", constructors.length, 1);
        Check.same("its modifiers", constructors[0].getModifiers(), Modifier.PUBLIC);
        Check.same("its parameters", constructors[0].getParameterCount(), 0);
        Check.finish("FaceTest");
    }
}
