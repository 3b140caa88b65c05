import java.lang.reflect.Constructor;
import java.lang.reflect.Field;
import java.lang.reflect.Method;
import java.lang.reflect.Modifier;
import java.util.ArrayList;
import java.util.Arrays;
import java.util.List;
import java.util.Set;
import java.util.TreeSet;

/** The class has the document's face, nothing beside it, and keeps to the first rules of LANGUAGE.md. */
public final class FaceTest {
    private static final String[] FACE = {
        "void page(int,int,boolean) I A S",
        "int cell(int,int) I",
        "int touched()",
        "int distance(int,int) A",
        "int advert(int,int,int,boolean,int,int) A S",
        "int place(int) I S",
        "int takeOff(int) I S",
        "int advertsIn(int) I",
        "int story(int,int,int) A S",
        "int lay(int) I S",
        "int lift(int) I S",
        "int change(int,int) I S",
        "int part(int,int) I A",
        "boolean person(int) I",
        "int sign(int,int) I S",
        "boolean hold(int,int) I S",
        "boolean isReady(int) I",
        "int close() S",
        "int printed(int,int,int) I",
        "int correct(int,int) I S",
        "int placeCorrection() S",
        "int clean(int) I",
        "int pass(int) A",
        "int truck(int,int) A S",
        "int late(int,int) I",
        "int word(int,int) A S",
        "int fit(int) A",
        "int dropWords()",
        "int weigh(int,int) A",
        "int crop(int,int) A",
        "int wire(int,int) A S",
        "int take() S",
        "void numbers(int,int) A",
        "int solutions()",
    };

    private FaceTest() {
    }

    private static String told(Method method) {
        StringBuilder text = new StringBuilder(method.getReturnType() + " " + method.getName() + "(");
        List<String> kinds = new ArrayList<>();
        for (Class<?> kind : method.getParameterTypes()) {
            kinds.add(kind.toString());
        }
        text.append(String.join(",", kinds)).append(")");
        for (Class<?> thrown : method.getExceptionTypes()) {
            text.append(' ').append(thrown.getSimpleName().replace("Illegal", "").charAt(0));
        }
        return text.toString();
    }

    private static void checkMethods(Checks checks) {
        Set<String> wanted = new TreeSet<>(Arrays.asList(FACE));
        Set<String> found = new TreeSet<>();
        Set<String> publicNames = new TreeSet<>();
        for (Method method : PressHall.class.getDeclaredMethods()) {
            if (Modifier.isPublic(method.getModifiers())) {
                found.add(told(method));
                publicNames.add(method.getName());
            }
        }
        checks.isTrue("the public methods are those of the face: " + found, found.equals(wanted));
        for (Method method : PressHall.class.getDeclaredMethods()) {
            if (!Modifier.isPublic(method.getModifiers())) {
                checks.isTrue(method + " is private", Modifier.isPrivate(method.getModifiers()));
                checks.isTrue(method + " has a name of its own", !publicNames.contains(method.getName()));
            }
        }
        for (Class<?> inner : PressHall.class.getDeclaredClasses()) {
            for (Method method : inner.getDeclaredMethods()) {
                checks.isTrue(method + " has a name of its own", !publicNames.contains(method.getName()));
            }
        }
    }

    private static void checkFields(Checks checks) throws IllegalAccessException {
        for (Field field : PressHall.class.getDeclaredFields()) {
            boolean isConstant = Modifier.isStatic(field.getModifiers());
            checks.isTrue(field + " is final if it is static", !isConstant || Modifier.isFinal(field.getModifiers()));
            checks.isTrue(field + " is private, but for NONE",
                    field.getName().equals("NONE") || Modifier.isPrivate(field.getModifiers()));
            if (field.getName().equals("NONE")) {
                checks.isTrue("NONE is a public constant of -1", isConstant && Modifier.isPublic(field.getModifiers())
                        && field.getType() == int.class && field.getInt(null) == -1);
            }
        }
    }

    private static void checkClasses(Checks checks) {
        checks.isTrue("the class is public and final", Modifier.isPublic(PressHall.class.getModifiers())
                && Modifier.isFinal(PressHall.class.getModifiers()));
        Constructor<?>[] constructors = PressHall.class.getDeclaredConstructors();
        checks.isTrue("there is one constructor, public and without parameters", constructors.length == 1
                && Modifier.isPublic(constructors[0].getModifiers()) && constructors[0].getParameterCount() == 0);
        Class<?>[] inner = PressHall.class.getDeclaredClasses();
        checks.isTrue("the file has at most some twelve classes", inner.length + 1 <= 14);
        for (Class<?> each : inner) {
            checks.isTrue(each + " is not public or protected", !Modifier.isPublic(each.getModifiers())
                    && !Modifier.isProtected(each.getModifiers()));
            checks.isTrue(each + " is static", Modifier.isStatic(each.getModifiers()));
        }
    }

    public static void main(String[] args) throws IllegalAccessException {
        Checks checks = new Checks();
        checkClasses(checks);
        checkFields(checks);
        checkMethods(checks);
        checks.end();
    }
}
