import java.io.IOException;
import java.lang.reflect.Constructor;
import java.lang.reflect.Field;
import java.lang.reflect.Method;
import java.lang.reflect.Modifier;
import java.nio.charset.StandardCharsets;
import java.nio.file.Files;
import java.nio.file.Path;
import java.util.Set;
import java.util.TreeSet;

/** The face of the class, and the rules of LANGUAGE.md that can be seen from its words. */
public final class LanguageTest {
    private static final Path SOURCE = Path.of("src/main/java/SightBlocks.java");

    private static final String[] FACE = {
        "addBlock 3", "addStage 0", "addPiece 3", "putUp 1", "takeDown 1", "hold 3", "buy 1", "drop 1",
        "giveBack 1", "comeIn 1", "upgrade 1", "pass 1", "closeDoors 0", "undo 0", "append 1", "clearText 0",
        "run 0", "count 1", "block 2", "chair 1", "holdOf 2", "ticket 2", "place 2", "wouldKill 1", "chain 1",
        "cheapest 1", "nextExpiry 0"};

    private static final String[] CONSTANTS = {
        "INVALID_ARGUMENT", "ILLEGAL_STATE", "CAPACITY_EXCEEDED", "NONE"};

    private static final String[] BANNED = {
        "throw", "throws", "try", "catch", "finally", "synchronized", "assert", "import", "package", "native",
        "volatile", "transient", "protected", "strictfp", "var", "sealed", "yield", "float", "double",
        "Object", "Exception", "System.out", "->", "::", "@", "equals", "hashCode", "toString"};

    public static void main(String[] args) throws IOException {
        constants();
        face();
        innerClasses();
        words();
        Due.end();
    }

    private static void constants() {
        Due.due("INVALID_ARGUMENT", SightBlocks.INVALID_ARGUMENT, -1);
        Due.due("ILLEGAL_STATE", SightBlocks.ILLEGAL_STATE, -2);
        Due.due("CAPACITY_EXCEEDED", SightBlocks.CAPACITY_EXCEEDED, -3);
        Due.due("NONE", SightBlocks.NONE, -9);
    }

    private static void face() {
        Class<?> face = SightBlocks.class;
        Due.holds("the class is public and final",
            Modifier.isPublic(face.getModifiers()) && Modifier.isFinal(face.getModifiers()));
        Set<String> methods = new TreeSet<>();
        Set<String> publicNames = new TreeSet<>();
        for (Method method : face.getDeclaredMethods()) {
            if (!Modifier.isPrivate(method.getModifiers())) {
                methods.add(method.getName() + " " + method.getParameterCount());
                publicNames.add(method.getName());
                Due.holds(method + " is public and returns int",
                    method.getModifiers() == Modifier.PUBLIC && method.getReturnType() == int.class);
            }
        }
        Due.holds("the methods are " + methods, methods.equals(Set.of(FACE)));
        for (Method method : face.getDeclaredMethods()) {
            Due.holds(method + " bears no public name",
                !Modifier.isPrivate(method.getModifiers()) || !publicNames.contains(method.getName()));
        }
        Set<String> fields = new TreeSet<>();
        for (Field field : face.getDeclaredFields()) {
            if (!Modifier.isPrivate(field.getModifiers())) {
                fields.add(field.getName());
            }
        }
        Due.holds("the constants are " + fields, fields.equals(Set.of(CONSTANTS)));
        Constructor<?>[] constructors = face.getDeclaredConstructors();
        Due.due("constructors", constructors.length, 1);
        Due.due("parameters of the constructor", constructors[0].getParameterCount(), 0);
    }

    private static void innerClasses() {
        Class<?>[] inner = SightBlocks.class.getDeclaredClasses();
        Due.holds("at most twelve classes", inner.length < 12);
        for (Class<?> one : inner) {
            Due.holds(one + " is static and not public",
                Modifier.isStatic(one.getModifiers()) && !Modifier.isPublic(one.getModifiers()));
            for (Field field : one.getDeclaredFields()) {
                Due.holds(field + " is no static state",
                    !Modifier.isStatic(field.getModifiers()) || Modifier.isFinal(field.getModifiers()));
            }
            for (Method method : one.getDeclaredMethods()) {
                Due.holds(method + " has at most seven parameters", method.getParameterCount() <= 7);
                for (String name : FACE) {
                    Due.holds(method + " bears no public name", !name.startsWith(method.getName() + " "));
                }
            }
        }
    }

    private static void words() throws IOException {
        String source = Files.readString(SOURCE, StandardCharsets.ISO_8859_1);
        for (int i = 0; i < source.length(); i++) {
            char sign = source.charAt(i);
            if (sign != '\n' && (sign < ' ' || sign > '~')) {
                Due.due("sign of the source at " + i, sign, ' ');
            }
        }
        String code = source.replaceAll("(?s)/\\*.*?\\*/", " ").replaceAll("//[^\n]*", " ");
        for (String word : BANNED) {
            boolean sign = !Character.isLetter(word.charAt(0));
            String pattern = sign ? "(?s).*" + word + ".*" : "(?s).*\\b" + word.replace(".", "\\.") + "\\b.*";
            Due.holds("the code does without " + word, !code.matches(pattern));
        }
    }
}
