import java.lang.reflect.Constructor;
import java.lang.reflect.Field;
import java.lang.reflect.Method;
import java.lang.reflect.Modifier;
import java.util.Set;
import java.util.TreeSet;

/** The public face, and what LANGUAGE.md's rules 1 and 5 say of members. */
public final class FaceTest {
    private static final Due DUE = new Due();
    private static final Set<String> FACE = Set.of(
        "int print(int,int)IllegalArgumentException",
        "int smudge(int,int)IndexOutOfBoundsException,IllegalArgumentException",
        "int elements()",
        "int width(int)IndexOutOfBoundsException",
        "int labelDigit(int)IndexOutOfBoundsException",
        "int draw(int,int,boolean)IllegalArgumentException,IllegalStateException",
        "int measure(int)IllegalArgumentException,IllegalStateException",
        "int clearMeasurement()",
        "int read()",
        "int times()",
        "int time(int)IndexOutOfBoundsException",
        "int setTolerance(int)IllegalArgumentException",
        "int result()",
        "int reason(boolean)",
        "int digit(int)IndexOutOfBoundsException",
        "int nearest(int)IndexOutOfBoundsException",
        "int codes()",
        "int code(int)IndexOutOfBoundsException",
        "int codeLength(int)IndexOutOfBoundsException",
        "int count(int)IndexOutOfBoundsException",
        "int successes()",
        "int failures()",
        "int ifDrawn(int,int,boolean)IllegalArgumentException,IllegalStateException",
        "int greatestSmudge(int)IndexOutOfBoundsException",
        "int leastTolerance()",
        "int append(int)IllegalArgumentException,IllegalStateException",
        "int clearBuffer()",
        "int firstError()",
        "int run()IllegalArgumentException",
        "int undo()IllegalStateException",
        "int savedStates()",
        "long digest()");

    private FaceTest() {
    }

    public static void main(String[] args) {
        testMethods();
        testFields();
        testConstructor();
        testNestedClasses();
        DUE.end();
    }

    private static String join(Class<?>[] types) {
        StringBuilder text = new StringBuilder();
        for (Class<?> type : types) {
            text.append(text.length() == 0 ? "" : ",").append(type.getSimpleName());
        }
        return text.toString();
    }

    private static void testMethods() {
        Set<String> found = new TreeSet<>();
        Set<String> names = new TreeSet<>();
        for (Method method : BarcodeWand.class.getDeclaredMethods()) {
            if (!Modifier.isPrivate(method.getModifiers())) {
                DUE.is("modifiers of " + method.getName(), method.getModifiers(), Modifier.PUBLIC);
                names.add(method.getName());
                found.add(method.getReturnType() + " " + method.getName() + "(" + join(method.getParameterTypes()) + ")"
                    + join(method.getExceptionTypes()));
            }
        }
        DUE.isTrue("the face is " + found, found.equals(FACE));
        checkPrivateNames(BarcodeWand.class, names);
        for (Class<?> inside : BarcodeWand.class.getDeclaredClasses()) {
            checkPrivateNames(inside, names);
        }
    }

    private static void checkPrivateNames(Class<?> type, Set<String> publicNames) {
        for (Method method : type.getDeclaredMethods()) {
            boolean isOfFace = type == BarcodeWand.class && Modifier.isPublic(method.getModifiers());
            DUE.isTrue("name of " + method, isOfFace || !publicNames.contains(method.getName()));
            DUE.isTrue("parameters of " + method, method.getParameterCount() <= 7);
        }
    }

    private static void testFields() {
        for (Field field : BarcodeWand.class.getDeclaredFields()) {
            if (!Modifier.isPrivate(field.getModifiers())) {
                DUE.isTrue("field " + field, field.getName().equals("NONE") && field.getType() == int.class);
                DUE.is("modifiers of " + field, field.getModifiers(),
                    Modifier.PUBLIC | Modifier.STATIC | Modifier.FINAL);
            }
            checkStaticIsFinal(field);
        }
    }

    private static void checkStaticIsFinal(Field field) {
        int modifiers = field.getModifiers();
        DUE.isTrue("static " + field, !Modifier.isStatic(modifiers) || Modifier.isFinal(modifiers));
    }

    private static void testConstructor() {
        DUE.is("modifiers of the class", BarcodeWand.class.getModifiers(), Modifier.PUBLIC | Modifier.FINAL);
        Constructor<?>[] constructors = BarcodeWand.class.getDeclaredConstructors();
        DUE.is("constructors", constructors.length, 1);
        DUE.is("modifiers of the constructor", constructors[0].getModifiers(), Modifier.PUBLIC);
        DUE.is("its parameters", constructors[0].getParameterCount(), 0);
    }

    private static void testNestedClasses() {
        Class<?>[] inside = BarcodeWand.class.getDeclaredClasses();
        DUE.isTrue("at most twelve classes", inside.length < 12);
        for (Class<?> type : inside) {
            int modifiers = type.getModifiers();
            DUE.isTrue("static " + type, Modifier.isStatic(modifiers));
            DUE.isTrue("private " + type, Modifier.isPrivate(modifiers));
            for (Field field : type.getDeclaredFields()) {
                checkStaticIsFinal(field);
            }
        }
    }
}
