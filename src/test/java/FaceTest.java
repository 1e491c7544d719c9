import java.lang.reflect.Constructor;
import java.lang.reflect.Field;
import java.lang.reflect.Method;
import java.lang.reflect.Modifier;
import java.util.Set;
import java.util.TreeSet;

/** The public face, as the document prints it, and nothing else that is not private. */
final class FaceTest {
    private static final Set<String> METHODS = Set.of(
        "int letter(int)", "int blank()", "int fault()", "int hills()", "int stick(int,int)",
        "int as(int,int)", "int at(int,int)", "int meet(int,int)", "int late(int,int)",
        "int cut(int,int)", "int saw(int,int)", "int later(int,int)", "int cover(int,int)",
        "int catches(int,int)", "int see(int,int)", "int forget()", "int whose()", "int look()",
        "int mornings(int,int,int)", "int image()", "int restore()", "int count(int)",
        "long digest()");

    public static void main(String[] args) {
        Check.due("NONE", StickWays.NONE, -1);
        Check.due("UNKNOWN", StickWays.UNKNOWN, -101);
        Check.due("OUTSIDE", StickWays.OUTSIDE, -102);
        Check.due("STATE", StickWays.STATE, -103);
        Check.due("FULL", StickWays.FULL, -104);
        theClassItself();
        theClassesInside();
        Check.end();
    }

    private static void theClassItself() {
        Check.due("public and final", (StickWays.class.getModifiers() & (Modifier.PUBLIC | Modifier.FINAL))
            == (Modifier.PUBLIC | Modifier.FINAL));
        Set<String> methods = new TreeSet<>();
        Set<String> publicNames = new TreeSet<>();
        for (Method method : StickWays.class.getDeclaredMethods()) {
            if (!Modifier.isPrivate(method.getModifiers())) {
                methods.add(told(method));
                publicNames.add(method.getName());
                Check.due(method + " is public", Modifier.isPublic(method.getModifiers()));
            }
        }
        Check.due("the methods are " + methods, methods.equals(METHODS));
        for (Method method : StickWays.class.getDeclaredMethods()) {
            Check.due(method + " has a name of its own",
                Modifier.isPublic(method.getModifiers()) || !publicNames.contains(method.getName()));
        }
        Set<String> fields = new TreeSet<>();
        for (Field field : StickWays.class.getDeclaredFields()) {
            if (!Modifier.isPrivate(field.getModifiers())) {
                fields.add(field.getName());
            }
            Check.due(field + ", if static, is final",
                !Modifier.isStatic(field.getModifiers()) || Modifier.isFinal(field.getModifiers()));
        }
        Check.due("the constants are " + fields,
            fields.equals(Set.of("NONE", "UNKNOWN", "OUTSIDE", "STATE", "FULL")));
        Constructor<?>[] constructors = StickWays.class.getDeclaredConstructors();
        Check.due("constructors", constructors.length, 1);
        Check.due("the constructor takes nothing", constructors[0].getParameterCount(), 0);
    }

    private static void theClassesInside() {
        for (Class<?> inside : StickWays.class.getDeclaredClasses()) {
            int modifiers = inside.getModifiers();
            Check.due(inside + " is static", Modifier.isStatic(modifiers));
            Check.due(inside + " is not public",
                !Modifier.isPublic(modifiers) && !Modifier.isProtected(modifiers));
        }
    }

    private static String told(Method method) {
        StringBuilder told = new StringBuilder();
        told.append(method.getReturnType()).append(' ').append(method.getName()).append('(');
        for (Class<?> parameter : method.getParameterTypes()) {
            told.append(told.charAt(told.length() - 1) == '(' ? "" : ",").append(parameter);
        }
        return told.append(')').toString();
    }
}
