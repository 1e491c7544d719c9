import java.io.IOException;
import java.lang.reflect.Constructor;
import java.lang.reflect.Field;
import java.lang.reflect.Method;
import java.lang.reflect.Modifier;
import java.nio.file.Files;
import java.nio.file.Path;
import java.util.Set;
import java.util.TreeSet;
import java.util.regex.Matcher;
import java.util.regex.Pattern;

/** The public face, as the document prints it, and nothing else that is not private. */
final class FaceTest {
    private static final Set<String> METHODS = Set.of(
        "int letter(int)", "int blank()", "int fault()", "int hills()", "int stick(int,int)",
        "int as(int,int)", "int at(int,int)", "int meet(int,int)", "int late(int,int)",
        "int cut(int,int)", "int saw(int,int)", "int later(int,int)", "int cover(int,int)",
        "int catches(int,int)", "int see(int,int)", "int forget()", "int whose()", "int look()",
        "int mornings(int,int,int)", "int image()", "int restore()", "int count(int)",
        "long digest()");

    private static final Path SOURCE = Path.of("src/main/java/StickWays.java");

    public static void main(String[] args) throws IOException, ReflectiveOperationException {
        Check.due("NONE", StickWays.NONE, -1);
        Check.due("UNKNOWN", StickWays.UNKNOWN, -101);
        Check.due("OUTSIDE", StickWays.OUTSIDE, -102);
        Check.due("STATE", StickWays.STATE, -103);
        Check.due("FULL", StickWays.FULL, -104);
        theClassItself();
        theClassesInside();
        if (Doc.isHere()) {
            asTheDocumentPrintsIt();
            inTheDocumentsGroups();
        }
        Check.end();
    }

    private static void theClassItself() {
        Check.due("public and final", (StickWays.class.getModifiers() & (Modifier.PUBLIC | Modifier.FINAL))
            == (Modifier.PUBLIC | Modifier.FINAL));
        Set<String> methods = new TreeSet<>();
        Set<String> publicNames = new TreeSet<>();
        for (Method method : StickWays.class.getDeclaredMethods()) {
            if (!Modifier.isPrivate(method.getModifiers())) {
                methods.add(told(method));
                publicNames.add(method.getName());
                Check.due(method + " is public", Modifier.isPublic(method.getModifiers()));
            }
        }
        Check.due("the methods are " + methods, methods.equals(METHODS));
        for (Method method : StickWays.class.getDeclaredMethods()) {
            Check.due(method + " has a name of its own",
                Modifier.isPublic(method.getModifiers()) || !publicNames.contains(method.getName()));
        }
        Set<String> fields = new TreeSet<>();
        for (Field field : StickWays.class.getDeclaredFields()) {
            if (!Modifier.isPrivate(field.getModifiers())) {
                fields.add(field.getName());
            }
            Check.due(field + ", if static, is final",
                !Modifier.isStatic(field.getModifiers()) || Modifier.isFinal(field.getModifiers()));
        }
        Check.due("the constants are " + fields,
            fields.equals(Set.of("NONE", "UNKNOWN", "OUTSIDE", "STATE", "FULL")));
        Constructor<?>[] constructors = StickWays.class.getDeclaredConstructors();
        Check.due("constructors", constructors.length, 1);
        Check.due("the constructor takes nothing", constructors[0].getParameterCount(), 0);
    }

    private static void theClassesInside() {
        for (Class<?> inside : StickWays.class.getDeclaredClasses()) {
            int modifiers = inside.getModifiers();
            Check.due(inside + " is static", Modifier.isStatic(modifiers));
            Check.due(inside + " is not public",
                !Modifier.isPublic(modifiers) && !Modifier.isProtected(modifiers));
        }
    }

    private static void asTheDocumentPrintsIt() throws ReflectiveOperationException {
        String face = Doc.face();
        Set<String> methods = new TreeSet<>();
        Matcher printed = Pattern.compile("public ((?:int|long) \\w+\\(.*\\));").matcher(face);
        while (printed.find()) {
            methods.add(printed.group(1).replaceAll("int \\w+(?=[,)])", "int").replace(", ", ","));
        }
        Check.due("the document prints " + methods, methods.equals(METHODS));
        int constants = 0;
        Matcher constant = Pattern.compile("([A-Z]+) = (-\\d+)").matcher(face);
        while (constant.find()) {
            constants++;
            Field field = StickWays.class.getField(constant.group(1));
            Check.due(field.getName(), field.getInt(null), Integer.parseInt(constant.group(2)));
        }
        Check.due("the document prints constants", constants, 5);
    }

    /** The source declares the calls in the document's order, each group behind its headline. */
    private static void inTheDocumentsGroups() throws IOException {
        String source = Files.readString(SOURCE);
        int groups = 0;
        int last = 0;
        Matcher group = Doc.groups();
        while (group.find()) {
            groups++;
            int headline = source.indexOf("    // " + group.group(2) + "\n", last);
            Check.due("the headline " + group.group(2), headline > last);
            last = Math.max(headline, last);
            Matcher name = Pattern.compile("\\w+").matcher(group.group(1));
            while (name.find()) {
                int declared = source.indexOf(" " + name.group() + "(", last);
                Check.due(name.group() + " is declared behind those ahead of it", declared > last);
                last = Math.max(declared, last);
            }
        }
        Check.due("groups of calls", groups, 5);
    }

    private static String told(Method method) {
        StringBuilder told = new StringBuilder();
        told.append(method.getReturnType()).append(' ').append(method.getName()).append('(');
        for (Class<?> parameter : method.getParameterTypes()) {
            told.append(told.charAt(told.length() - 1) == '(' ? "" : ",").append(parameter);
        }
        return told.append(')').toString();
    }
}
