import java.io.IOException;
import java.lang.reflect.Constructor;
import java.lang.reflect.Field;
import java.lang.reflect.Method;
import java.lang.reflect.Modifier;
import java.nio.charset.StandardCharsets;
import java.nio.file.Files;
import java.nio.file.Path;
import java.util.ArrayList;
import java.util.Arrays;
import java.util.Collections;
import java.util.List;

/** The face is the document's, nothing less and nothing more; and some rules of LANGUAGE.md. */
public final class FaceTest {
    private static final String[] FACE = {
        "int batch(int,int) IndexOutOfBoundsException IllegalArgumentException",
        "int dirt(int) IndexOutOfBoundsException",
        "int empty(int) IndexOutOfBoundsException",
        "int open(int) IndexOutOfBoundsException IllegalStateException",
        "int order(int,int,int) IndexOutOfBoundsException IllegalArgumentException IllegalStateException",
        "int pass(int) IllegalArgumentException IllegalStateException",
        "int pipe(int) IllegalArgumentException",
        "int pressure(int,int) IndexOutOfBoundsException IllegalArgumentException IllegalStateException",
        "int rate(int) IllegalArgumentException",
        "int receive(int) IndexOutOfBoundsException",
        "int segment(int,int,int) IllegalArgumentException IllegalStateException",
        "int share(int,int) IndexOutOfBoundsException IllegalArgumentException",
        "int tank(int,int) IndexOutOfBoundsException IllegalArgumentException",
        "int unit(int) IndexOutOfBoundsException",
        "int unitAnew(int) IndexOutOfBoundsException",
        "void drop(int,int,int) IndexOutOfBoundsException IllegalArgumentException",
        "void launch() IllegalStateException",
        "void leak(int,int) IndexOutOfBoundsException IllegalArgumentException",
        "void product(int,int,int,int,int) IndexOutOfBoundsException IllegalArgumentException",
    };

    private static final String[] RULED_OUT = {
        "import ", "package ", "protected ", "->", "::", "try ", "catch", "finally", "synchronized", "assert",
        "Exact(", "System.", "Thread", "@", "hashCode", "toString", "\" +", "+ \"",
    };

    public static void main(String[] args) throws IOException {
        faceIsThatOfTheDocument();
        membersAreFew();
        textKeepsToTheLanguage();
        Check.end();
    }

    private static void faceIsThatOfTheDocument() {
        Class<?> c = BatchPipe.class;
        Check.due("the class", Modifier.PUBLIC | Modifier.FINAL, c.getModifiers());
        List<String> found = new ArrayList<>();
        for (Method m : c.getDeclaredMethods()) {
            if (!Modifier.isPrivate(m.getModifiers())) {
                Check.due("modifiers of " + m.getName(), Modifier.PUBLIC, m.getModifiers());
                found.add(lineOf(m));
            }
        }
        Collections.sort(found);
        Check.due("the methods", String.join("\n", FACE), String.join("\n", found));
        Constructor<?>[] made = c.getDeclaredConstructors();
        Check.due("constructors", 1, made.length);
        Check.due("its parameters", 0, made[0].getParameterCount());
        Check.due("its modifiers", Modifier.PUBLIC, made[0].getModifiers());
        for (Field f : c.getDeclaredFields()) {
            boolean isPrivate = Modifier.isPrivate(f.getModifiers());
            Check.due("is a private field " + f.getName(), f.getName().equals("NONE") ? 0 : 1, isPrivate ? 1 : 0);
        }
    }

    private static String lineOf(Method m) {
        StringBuilder line = new StringBuilder(m.getReturnType() + " " + m.getName() + "(");
        Class<?>[] parameters = m.getParameterTypes();
        for (int k = 0; k < parameters.length; k++) {
            line.append(k == 0 ? "" : ",").append(parameters[k]);
        }
        line.append(")");
        for (Class<?> e : m.getExceptionTypes()) {
            line.append(" ").append(e.getSimpleName());
        }
        return line.toString();
    }

    private static void membersAreFew() {
        List<Class<?>> all = new ArrayList<>(Arrays.asList(BatchPipe.class.getDeclaredClasses()));
        Check.due("at most twelve classes", 1, all.size() < 12 ? 1 : 0);
        for (Class<?> c : all) {
            Check.due(c + " is static", 1, Modifier.isStatic(c.getModifiers()) ? 1 : 0);
        }
        all.add(BatchPipe.class);
        List<String> open = new ArrayList<>();
        for (String line : FACE) {
            open.add(line.substring(line.indexOf(' ') + 1, line.indexOf('(')));
        }
        for (Class<?> c : all) {
            int fields = 0;
            for (Field f : c.getDeclaredFields()) {
                boolean isStatic = Modifier.isStatic(f.getModifiers());
                Check.due("static but not final: " + f, 0, isStatic && !Modifier.isFinal(f.getModifiers()) ? 1 : 0);
                fields += isStatic ? 0 : 1;
            }
            Check.due(c + " has at most twenty fields", 1, fields <= 20 ? 1 : 0);
            for (Method m : c.getDeclaredMethods()) {
                Check.due("at most seven parameters: " + m, 1, m.getParameterCount() <= 7 ? 1 : 0);
                boolean bearsName = !Modifier.isPublic(m.getModifiers()) && open.contains(m.getName());
                Check.due("bears the name of a public one: " + m, 0, bearsName ? 1 : 0);
            }
        }
    }

    private static void textKeepsToTheLanguage() throws IOException {
        byte[] bytes = Files.readAllBytes(Path.of("src/main/java/BatchPipe.java"));
        String text = new String(bytes, StandardCharsets.ISO_8859_1).replaceAll("(?s)/\\*.*?\\*/|//[^\n]*", "");
        for (String sign : RULED_OUT) {
            Check.due("has " + sign, -1, text.indexOf(sign));
        }
        // What is made is made with the object: no call makes anything but what it throws.
        String behindConstructor = text.substring(text.indexOf("public int segment("), text.indexOf("static final class"));
        String withoutThrows = behindConstructor.replaceAll("throw new \\w+\\(\"[^\"]*\"\\);", "");
        Check.due("a call makes something", -1, withoutThrows.indexOf("new "));
    }
}
