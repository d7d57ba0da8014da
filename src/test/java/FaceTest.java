import java.lang.reflect.Constructor;
import java.lang.reflect.Field;
import java.lang.reflect.Method;
import java.lang.reflect.Modifier;
import java.util.Set;
import java.util.TreeSet;

/** The public face, as the document writes it, and nothing beside it. */
public final class FaceTest {
    private static final String FACE = """
        public TornLeaves();
        public int feed(int, int, int, int, int);
        public int shelf(int) throws IllegalArgumentException;
        public int fault();
        public int count(int) throws NoSuchElementException;
        public int book(int, int) throws NoSuchElementException;
        public boolean isThere(int, int) throws NoSuchElementException;
        public int number(int, int) throws NoSuchElementException;
        public int page(int, int) throws NoSuchElementException;
        public long sum(int) throws NoSuchElementException;
        public int figures(int, int) throws NoSuchElementException;
        public int tear(int, int) throws NoSuchElementException;
        public int sheet(int, int) throws NoSuchElementException;
        public int put();
        public boolean add(int, long) throws NoSuchElementException;
        public int wrong();
        public long fits(long, int) throws NoSuchElementException, IllegalArgumentException;
        public long leaf(long, int) throws NoSuchElementException, IllegalArgumentException;
        public long several(long, int, int) throws NoSuchElementException, IllegalArgumentException;
        public long ways(long, int, int) throws IllegalArgumentException;
        public long sewn(long) throws IllegalArgumentException;
        public long street(long, int, boolean) throws NoSuchElementException, IllegalArgumentException;
        public int said(long, int, long) throws NoSuchElementException, IllegalArgumentException;
        public int tells(long) throws IllegalArgumentException;
        public int far(int) throws IllegalArgumentException;
        public int lacks(int) throws IllegalArgumentException;
        public long skip(int, long, boolean) throws IllegalArgumentException;
        public int whole(int) throws NoSuchElementException;
        public int bought(int) throws NoSuchElementException;
        public int index(int, int) throws NoSuchElementException;
        public int seed(int, int, int) throws NoSuchElementException, IllegalArgumentException;
        public long way(long, int, int, long) throws NoSuchElementException, IllegalArgumentException;
        public long between(long, long, int) throws NoSuchElementException, IllegalArgumentException;
        public int stick(int, int) throws NoSuchElementException;
        public int loosen();
        public long read(int, int, int, int, int, boolean) throws NoSuchElementException, IllegalArgumentException;
        public long shares(int, int) throws NoSuchElementException, IllegalArgumentException;
        public int child(int) throws NoSuchElementException;
        public int least(int, long) throws NoSuchElementException, IllegalArgumentException;
        public int torn(int) throws NoSuchElementException;
        public void image();
        public boolean restore();
        """;

    public static void main(String[] args) {
        Set<String> due = new TreeSet<>(FACE.strip().lines().map(String::strip).toList());
        Set<String> got = new TreeSet<>();
        for (Constructor<?> maker : TornLeaves.class.getDeclaredConstructors()) {
            got.add(plain(maker.toString()));
        }
        for (Method method : TornLeaves.class.getDeclaredMethods()) {
            if (!Modifier.isPrivate(method.getModifiers()) && !method.isSynthetic()) {
                got.add(plain(method.toString()));
            }
        }
        for (String line : due) {
            Run.isTrue("the face has " + line, got.contains(line));
        }
        for (String line : got) {
            Run.isTrue("the document has " + line, due.contains(line));
        }
        for (Field field : TornLeaves.class.getDeclaredFields()) {
            boolean open = !Modifier.isPrivate(field.getModifiers()) && !field.isSynthetic();
            Run.isTrue("no field but NONE is open: " + field, !open || field.getName().equals("NONE"));
        }
        Run.isTrue("NONE is -1", TornLeaves.NONE == -1);
        Run.isTrue("the class is final", Modifier.isFinal(TornLeaves.class.getModifiers()));
        Run.end("FaceTest");
    }

    private static String plain(String signature) {
        return signature.replaceAll("java\\.(lang|util)\\.", "").replace("TornLeaves.", "")
                .replace("final ", "").replace(",", ", ") + ";";
    }
}
