import java.lang.reflect.Constructor;
import java.lang.reflect.Field;
import java.lang.reflect.Method;
import java.lang.reflect.Modifier;
import java.nio.file.Path;
import java.util.Set;
import java.util.TreeSet;
import java.util.stream.Collectors;

/** The public face, as the document writes it, and nothing beside it. */
public final class FaceTest {
    public static void main(String[] args) {
        // A constant, the constructor, and a method for each other promise.
        Run.isTrue("the document's face has 43 lines", Document.face().size() == 43 && Document.methods().size() == 41);
        asTheDocumentWritesIt();
        nothingBeside();
        constants();
        Run.end("FaceTest");
    }

    /** Names of arguments, too, and what is thrown in which order. */
    private static void asTheDocumentWritesIt() {
        String source = Document.wordsOf(Document.read(Path.of("src/main/java/TornLeaves.java")));
        for (String line : Document.face()) {
            boolean isConstant = line.contains("=");
            String due = isConstant ? line : line.substring(0, line.length() - 1) + " {";
            Run.isTrue("the source has " + due, source.contains(" " + due + " "));
        }
        Run.isTrue("the class is as told", source.contains(" public final class TornLeaves { "));
    }

    private static void nothingBeside() {
        Set<String> due = Document.face().stream().filter(line -> line.contains("(")).map(FaceTest::typesOf)
                .collect(Collectors.toCollection(TreeSet::new));
        Set<String> got = new TreeSet<>();
        for (Constructor<?> maker : TornLeaves.class.getDeclaredConstructors()) {
            got.add(plain(maker.toString()));
        }
        for (Method method : TornLeaves.class.getDeclaredMethods()) {
            if (!Modifier.isPrivate(method.getModifiers()) && !method.isSynthetic()) {
                got.add(plain(method.toString()));
            }
        }
        for (String line : due) {
            Run.isTrue("the face has " + line, got.contains(line));
        }
        for (String line : got) {
            Run.isTrue("the document has " + line, due.contains(line));
        }
    }

    /** A declaration without the names of its arguments. */
    private static String typesOf(String line) {
        return line.replaceAll("(int|long|boolean) \\w+(?=[,)])", "$1");
    }

    private static String plain(String signature) {
        return signature.replaceAll("java\\.(lang|util)\\.", "").replace("TornLeaves.", "")
                .replace("final ", "").replace(",", ", ") + ";";
    }

    private static void constants() {
        Run.about("The constants: `NONE = -1`: There is none.");
        for (Field field : TornLeaves.class.getDeclaredFields()) {
            boolean open = !Modifier.isPrivate(field.getModifiers()) && !field.isSynthetic();
            Run.isTrue("no field but NONE is open: " + field, !open || field.getName().equals("NONE"));
            Run.isTrue("what is static is final: " + field,
                    !Modifier.isStatic(field.getModifiers()) || Modifier.isFinal(field.getModifiers()));
        }
        Run.isTrue("NONE is -1", TornLeaves.NONE == -1);
        Run.isTrue("the class is final", Modifier.isFinal(TornLeaves.class.getModifiers()));
        Run.isTrue("the class is an object's own", TornLeaves.class.getSuperclass() == Object.class
                && TornLeaves.class.getInterfaces().length == 0);
    }
}
