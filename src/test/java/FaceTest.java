import java.lang.reflect.Constructor;
import java.lang.reflect.Field;
import java.lang.reflect.Method;
import java.lang.reflect.Modifier;
import java.nio.file.Files;
import java.nio.file.Path;
import java.util.Arrays;
import java.util.Set;
import java.util.TreeSet;
import java.util.regex.Matcher;
import java.util.regex.Pattern;
import java.util.stream.Collectors;

/** The public face, and the rules of the language that can be seen in the source. */
public final class FaceTest {
    private static final Set<String> METHODS = new TreeSet<>(Set.of("int crossing()",
        "int street(int,int,int,boolean)", "boolean hour(int)", "boolean corners(int,int)",
        "int turn(int,int,int,int)", "int feed(int,int,int,int,int)", "int end(int)", "int acts()",
        "int fault(int)", "int may(int,int,int)", "int speed(int,int,int)",
        "int fastest(int,int,int,int)", "int streets(int,int,int,int)", "int sign(int,int)",
        "int crew(int)", "int walk(int,int)", "int done()", "int order(int,int)", "int later(int)",
        "int tell(int,int,int)", "boolean untell(int)", "int harms(int,int,int,int)",
        "int differ(int,int,int)", "int about(int)"));
    private static int wrong = 0;

    public static void main(String[] args) throws Exception {
        face();
        names();
        source();
        System.out.println(wrong == 0 ? "the face is the document's" : wrong + " rules are broken");
        if (wrong != 0) {
            System.exit(1);
        }
    }

    private static void holds(String what, boolean so) {
        if (!so) {
            wrong++;
            System.out.println("broken: " + what);
        }
    }

    private static void face() throws Exception {
        Class<?> c = CrossDawn.class;
        holds("public and final", Modifier.isPublic(c.getModifiers()) && Modifier.isFinal(c.getModifiers()));
        Constructor<?>[] constructors = c.getDeclaredConstructors();
        holds("one public constructor without arguments", constructors.length == 1
            && Modifier.isPublic(constructors[0].getModifiers()) && constructors[0].getParameterCount() == 0);
        Set<String> methods = new TreeSet<>();
        for (Method m : c.getDeclaredMethods()) {
            if (Modifier.isPublic(m.getModifiers()) && !Modifier.isStatic(m.getModifiers())) {
                methods.add(m.getReturnType() + " " + m.getName() + Arrays.stream(m.getParameterTypes())
                    .map(Class::getName).collect(Collectors.joining(",", "(", ")")));
            } else {
                holds("private: " + m, Modifier.isPrivate(m.getModifiers()) || m.isSynthetic());
            }
        }
        holds("the methods are " + methods, methods.equals(METHODS));
        for (Field f : c.getDeclaredFields()) {
            holds("private: " + f, Modifier.isPrivate(f.getModifiers()) != f.getName().equals("NONE"));
        }
        Field none = c.getField("NONE");
        holds("NONE is a constant of -1", Modifier.isStatic(none.getModifiers())
            && Modifier.isFinal(none.getModifiers()) && none.getType() == int.class && none.getInt(null) == -1);
    }

    /** No method of a class inside bears a public name; classes and fields are few. */
    private static void names() {
        Set<String> names = METHODS.stream().map(m -> m.replaceAll(".* |\\(.*", "")).collect(Collectors.toSet());
        for (Method m : CrossDawn.class.getDeclaredMethods()) {
            holds("a name of its own: " + m, Modifier.isPublic(m.getModifiers()) || !names.contains(m.getName()));
        }
        Class<?>[] inside = CrossDawn.class.getDeclaredClasses();
        holds("at most twelve classes", inside.length < 12);
        for (Class<?> c : inside) {
            holds("static: " + c, Modifier.isStatic(c.getModifiers()));
            holds("private or package-visible: " + c,
                (c.getModifiers() & (Modifier.PUBLIC | Modifier.PROTECTED)) == 0);
            for (Method m : c.getDeclaredMethods()) {
                holds("a name of its own: " + m, !names.contains(m.getName()));
                holds("at most seven parameters: " + m, m.getParameterCount() <= 7);
            }
            long fields = Arrays.stream(c.getDeclaredFields()).filter(f -> !Modifier.isStatic(f.getModifiers())).count();
            holds("at most twenty fields: " + c, fields <= 20);
            for (Field f : c.getDeclaredFields()) {
                holds("final, if static: " + f, !Modifier.isStatic(f.getModifiers()) || Modifier.isFinal(f.getModifiers()));
            }
        }
    }

    private static void source() throws Exception {
        String code = Files.readString(Path.of("src/main/java/CrossDawn.java"))
            .replaceAll("(?s)/\\*.*?\\*/", "").replaceAll("//[^\n]*", "");
        Pattern banned = Pattern.compile("\\b(package|throws?|try|catch|finally|synchronized|assert|native|var|"
            + "hashCode|toString|Object|Random|Thread|System\\.(?!arraycopy)\\w+|\\w+Exact)\\b|->|::|\\{\\{|@");
        Matcher found = banned.matcher(code);
        while (found.find()) {
            holds("not in the language: " + found.group(), false);
        }
        Matcher imports = Pattern.compile("import ([^;]*);").matcher(code);
        while (imports.find()) {
            holds("import of " + imports.group(1), imports.group(1).equals("java.util.Arrays"));
        }
        int begin = 0;
        String[] lines = code.split("\n");
        for (int i = 0; i < lines.length; i++) {
            begin = lines[i].matches(" {4}( {4})?\\S.*\\) \\{") ? i : begin;
            boolean ends = lines[i].matches(" {4}( {4})?\\}");
            holds("at most sixty lines up to line " + i, !ends || i - begin <= 60 || lines[i].equals("    }"));
        }
    }
}
