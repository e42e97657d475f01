import java.io.IOException;
import java.lang.reflect.Field;
import java.lang.reflect.Method;
import java.lang.reflect.Modifier;
import java.nio.file.Files;
import java.nio.file.Path;
import java.util.Arrays;
import java.util.TreeSet;

/** The public face, and what LANGUAGE.md says of it. */
public final class FaceTest {
    private static final String[] FACE = {
        "public boolean ThreeClerks.write(long)",
        "public int ThreeClerks.compile() throws java.lang.IllegalArgumentException",
        "public int ThreeClerks.output(int) throws java.lang.IndexOutOfBoundsException",
        "public int ThreeClerks.place()",
        "public int ThreeClerks.run(int) throws java.lang.IllegalStateException",
        "public int ThreeClerks.wipe()",
        "public void ThreeClerks.input(int,int) throws java.lang.IllegalArgumentException",
        "public void ThreeClerks.seed(int,int,int) throws java.lang.IllegalArgumentException",
    };
    private static final String[] BARRED = {"::", "synchronized", "assert", "finally", "getMessage", "Random", "Thread", "nanoTime",
        "currentTimeMillis", "getenv"};

    public static void main(String[] args) throws IOException {
        members();
        Check.holds("public and final", ThreeClerks.class.getModifiers() == (Modifier.PUBLIC | Modifier.FINAL));
        Check.same("constructors", 1, ThreeClerks.class.getDeclaredConstructors().length);
        inside();
        source();
        Check.end();
    }

    private static void members() {
        TreeSet<String> names = new TreeSet<>();
        TreeSet<String> found = new TreeSet<>();
        for (Method method : ThreeClerks.class.getDeclaredMethods()) {
            if (!Modifier.isPrivate(method.getModifiers())) {
                found.add(method.toGenericString());
                Check.holds("one method is named " + method.getName(), names.add(method.getName()));
            }
        }
        Check.holds("the face is " + found, found.equals(new TreeSet<>(Arrays.asList(FACE))));
        privateMethods(ThreeClerks.class, names);
        for (Class<?> type : ThreeClerks.class.getDeclaredClasses()) {
            privateMethods(type, names);
        }
        for (Field field : ThreeClerks.class.getDeclaredFields()) {
            Check.holds(field + " is private", Modifier.isPrivate(field.getModifiers()));
        }
    }

    private static void privateMethods(Class<?> type, TreeSet<String> names) {
        for (Method method : type.getDeclaredMethods()) {
            boolean hidden = Modifier.isPrivate(method.getModifiers());
            Check.holds(method + " bears no name of the face", !hidden || !names.contains(method.getName()));
            Check.holds(method + " is no lambda", !method.getName().startsWith("lambda$"));
        }
    }

    private static void inside() {
        Class<?>[] types = ThreeClerks.class.getDeclaredClasses();
        Check.holds("at most twelve classes", types.length <= 12);
        for (Class<?> type : types) {
            Check.holds(type + " is static and not public",
                Modifier.isStatic(type.getModifiers()) && !Modifier.isPublic(type.getModifiers()));
            int fields = 0;
            for (Field field : type.getDeclaredFields()) {
                boolean shared = Modifier.isStatic(field.getModifiers());
                Check.holds(field + " is final if it is static", !shared || Modifier.isFinal(field.getModifiers()));
                fields += shared ? 0 : 1;
            }
            Check.holds(type + " has at most twenty fields", fields <= 20);
        }
    }

    private static void source() throws IOException {
        String source = Files.readString(Path.of("src/main/java/ThreeClerks.java"));
        String code = source.replaceAll("(?s)/\\*.*?\\*/", "").replaceAll("//.*", "");
        for (String barred : BARRED) {
            Check.holds("no " + barred, !code.contains(barred));
        }
        for (String line : code.split("\n")) {
            Check.holds("library: " + line,
                !line.startsWith("import ") || line.matches("import java\\.util\\.(Arrays|ArrayList|List|Iterator);"));
        }
    }
}
