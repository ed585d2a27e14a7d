import java.lang.reflect.Constructor;
import java.lang.reflect.Field;
import java.lang.reflect.Method;
import java.lang.reflect.Modifier;
import java.util.ArrayList;
import java.util.Collections;
import java.util.List;

/** The document's face: its constants, constructor and methods, and no other member to be seen. */
public final class FaceTest {
    private static final String VALUE = " throws IllegalArgumentException";
    private static final String PLACE = " throws IndexOutOfBoundsException";
    private static final String STATE = " throws IllegalStateException";
    private static final String PLACE_AND_VALUE = PLACE + ",IllegalArgumentException";
    private static final String ALL_THREE = PLACE_AND_VALUE + ",IllegalStateException";

    private static final String[] METHODS = {
        "int feed(int,int,int,int,int)" + STATE,
        "int truncate(int)" + VALUE,
        "int readText()" + VALUE,
        "int runScript()" + VALUE,
        "int errorCode()",
        "int errorPosition()",
        "int setting(int)" + VALUE,
        "int slat(int,int)" + PLACE_AND_VALUE,
        "int slatAt(int)" + PLACE,
        "int picture(boolean,int,int)" + PLACE,
        "int face(int,boolean,int,int)" + PLACE,
        "int common()",
        "int seen(int,int,int)" + PLACE_AND_VALUE,
        "int why(int,boolean,int,int)" + PLACE_AND_VALUE,
        "int right(int,boolean)" + VALUE,
        "int open(int)" + VALUE,
        "int covered(int)" + VALUE,
        "int whole(int)" + VALUE,
        "int firstWrong(int,boolean)" + VALUE,
        "int shownFrom(int)" + PLACE,
        "int bestAngle(boolean)",
        "int seam(int)" + PLACE,
        "int run(int)" + VALUE,
        "int worstSlat(int,boolean)" + VALUE,
        "int ghosts(int,boolean)" + VALUE,
        "int paintable(boolean)",
        "int span(boolean)",
        "float light(int)" + VALUE,
        "double meanRight(boolean)",
        "int lightest()",
        "int bestTurn(int,int,boolean)" + PLACE_AND_VALUE,
        "int bestPull(int,boolean)" + VALUE,
        "int dabs(int,boolean)" + VALUE,
        "int turnsNeeded(int,boolean)" + VALUE,
        "int fairest(int)" + VALUE,
        "int pull(int)" + VALUE,
        "int turn(int,int)" + ALL_THREE,
        "boolean tie(int,boolean)" + PLACE,
        "int paint(int,boolean)" + PLACE + ",IllegalStateException",
        "int dab(int,boolean,int,int,int)" + PLACE_AND_VALUE,
        "int swap(int)" + PLACE,
        "int spot(boolean,int,int,int)" + ALL_THREE,
        "int report(int)" + VALUE,
        "int reportByte(int)" + PLACE,
        "int undo()",
        "int save()",
        "int restore()" + STATE};

    private FaceTest() {
    }

    public static void main(String[] args) {
        theClass();
        constants();
        constructors();
        methods();
        privateNames();
        Check.end();
    }

    private static void theClass() {
        int modifiers = BambooBlind.class.getModifiers();
        Check.same("the class", Modifier.toString(modifiers), "public final");
        Check.same("its package", BambooBlind.class.getPackageName(), "");
        for (Class<?> inside : BambooBlind.class.getDeclaredClasses()) {
            int itsModifiers = inside.getModifiers();
            boolean isHidden = !Modifier.isPublic(itsModifiers)
                    && !Modifier.isProtected(itsModifiers) && Modifier.isStatic(itsModifiers);
            Check.same("hidden and static: " + inside.getSimpleName(), isHidden, true);
        }
    }

    private static void constants() {
        List<String> fields = new ArrayList<>();
        for (Field field : BambooBlind.class.getDeclaredFields()) {
            if (!Modifier.isPrivate(field.getModifiers())) {
                fields.add(Modifier.toString(field.getModifiers()) + " "
                        + field.getType().getSimpleName() + " " + field.getName());
            }
        }
        Check.same("the constants", fields.toString(), "[public static final int NONE, "
                + "public static final int COVERED, public static final int NOWHERE]");
    }

    private static void constructors() {
        List<String> told = new ArrayList<>();
        for (Constructor<?> constructor : BambooBlind.class.getDeclaredConstructors()) {
            told.add(constructor.toString());
        }
        Check.same("the constructors", told.toString(), "[public BambooBlind()]");
    }

    private static void methods() {
        List<String> due = new ArrayList<>(List.of(METHODS));
        List<String> told = new ArrayList<>();
        for (Method method : BambooBlind.class.getDeclaredMethods()) {
            if (!Modifier.isPrivate(method.getModifiers())) {
                told.add(signature(method));
                Check.same("public: " + method.getName(),
                        Modifier.toString(method.getModifiers()), "public");
            }
        }
        Collections.sort(due);
        Collections.sort(told);
        Check.same("the methods", String.join("\n", told), String.join("\n", due));
    }

    private static String signature(Method method) {
        StringBuilder told = new StringBuilder(method.getReturnType().getSimpleName());
        told.append(' ').append(method.getName());
        told.append('(').append(names(method.getParameterTypes())).append(')');
        String thrown = names(method.getExceptionTypes());
        return told.append(thrown.isEmpty() ? "" : " throws ").append(thrown).toString();
    }

    private static String names(Class<?>... types) {
        List<String> names = new ArrayList<>();
        for (Class<?> type : types) {
            names.add(type.getSimpleName());
        }
        return String.join(",", names);
    }

    private static void privateNames() {
        List<String> publicNames = new ArrayList<>();
        for (Method method : BambooBlind.class.getMethods()) {
            publicNames.add(method.getName());
        }
        for (Method method : BambooBlind.class.getDeclaredMethods()) {
            boolean isPrivate = Modifier.isPrivate(method.getModifiers());
            boolean isTaken = isPrivate && publicNames.contains(method.getName());
            Check.same("a name of its own: " + method.getName(), isTaken, false);
        }
    }
}
