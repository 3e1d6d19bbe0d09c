import java.lang.reflect.Constructor;
import java.lang.reflect.Field;
import java.lang.reflect.Method;
import java.lang.reflect.Modifier;
import java.util.Set;
import java.util.TreeSet;

/** The class shows the face of the document and nothing else, and keeps no static state. */
public final class FaceTest {
    private static final Set<String> METHODS = Set.of(
        "int point(int, int)", "int line()", "int polygon()", "int corner(int, int, int)", "int remove(int)", "int check(int)",
        "int inside(int, int, int)", "int meets(int, int)", "long square(int, int, int)", "int near(int, int, int)",
        "long area(int)", "int boxed(int, int, int, int)", "int found(int) throws ArrayIndexOutOfBoundsException", "int shapes()");
    private static final Due due = new Due();

    public static void main(String[] args) {
        Class<?> face = PlacePoints.class;
        due.is("public and final", face.getModifiers() & (Modifier.PUBLIC | Modifier.FINAL), Modifier.PUBLIC | Modifier.FINAL);
        methods(face);
        constants(face);
        Constructor<?>[] constructors = face.getDeclaredConstructors();
        due.is("constructors", constructors.length, 1);
        due.is("public constructor", constructors[0].getModifiers(), Modifier.PUBLIC);
        due.is("its parameters", constructors[0].getParameterCount(), 0);
        due.is("BAD", PlacePoints.BAD, -1);
        due.is("FULL", PlacePoints.FULL, -2);
        noStaticState(face);
        for (Class<?> own : face.getDeclaredClasses()) {
            due.is("static: " + own.getName(), own.getModifiers() & Modifier.STATIC, Modifier.STATIC);
            due.is("not shown: " + own.getName(), own.getModifiers() & (Modifier.PUBLIC | Modifier.PROTECTED), 0);
            noStaticState(own);
        }
        due.end();
    }

    private static void methods(Class<?> face) {
        Set<String> shown = new TreeSet<>();
        Set<String> shownNames = new TreeSet<>();
        for (Method method : face.getDeclaredMethods()) {
            if (!Modifier.isPrivate(method.getModifiers())) {
                due.is("plainly public: " + method, method.getModifiers(), Modifier.PUBLIC);
                shown.add(written(method));
                shownNames.add(method.getName());
            }
        }
        for (Method method : face.getDeclaredMethods()) {
            boolean doubled = Modifier.isPrivate(method.getModifiers()) && shownNames.contains(method.getName());
            due.is("private by a public name: " + method, doubled ? 1 : 0, 0);
        }
        due.is("the document's methods and no others: " + shown, shown.equals(METHODS) ? 1 : 0, 1);
    }

    private static String written(Method method) {
        StringBuilder text = new StringBuilder(method.getReturnType().getSimpleName());
        text.append(' ').append(method.getName()).append('(');
        for (Class<?> type : method.getParameterTypes()) {
            text.append(text.charAt(text.length() - 1) == '(' ? "" : ", ").append(type.getSimpleName());
        }
        text.append(')');
        for (Class<?> type : method.getExceptionTypes()) {
            text.append(" throws ").append(type.getSimpleName());
        }
        return text.toString();
    }

    private static void constants(Class<?> face) {
        Set<String> shown = new TreeSet<>();
        for (Field field : face.getDeclaredFields()) {
            if (!Modifier.isPrivate(field.getModifiers())) {
                due.is("constant: " + field, field.getModifiers(), Modifier.PUBLIC | Modifier.STATIC | Modifier.FINAL);
                due.is("int: " + field, field.getType() == int.class ? 1 : 0, 1);
                shown.add(field.getName());
            }
        }
        due.is("BAD and FULL alone: " + shown, shown.equals(Set.of("BAD", "FULL")) ? 1 : 0, 1);
    }

    private static void noStaticState(Class<?> any) {
        for (Field field : any.getDeclaredFields()) {
            if (Modifier.isStatic(field.getModifiers())) {
                due.is("final: " + field, field.getModifiers() & Modifier.FINAL, Modifier.FINAL);
            }
        }
    }
}
