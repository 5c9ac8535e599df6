import java.lang.management.ManagementFactory;
import java.lang.reflect.Constructor;
import java.lang.reflect.Field;
import java.lang.reflect.Method;
import java.lang.reflect.Modifier;
import java.nio.file.Files;
import java.nio.file.Path;
import java.util.Arrays;
import java.util.HashSet;
import java.util.List;
import java.util.Set;
import java.util.TreeSet;
import java.util.stream.Collectors;

/** The public face, and what of ../shared/LANGUAGE.md can be seen from outside; .ci/run starts it in the checkout. */
final class FaceTest {
    private static final Due due = new Due("FaceTest");
    private static final String FACE = """
        int feed(int)
        int room()
        int fan(int,int,int,int,int)
        int of(int,int)
        int turn(int,int,int,int)
        int on(int,boolean)
        int row(int,int,int)
        int sitter(int,int)
        int at(int,int)
        int move(int,int)
        int heat(int,int)
        int told(int)
        int go(int)
        int is(int,int)
        int then(int,int)
        int hottest(int)
        int tooHot(int)
        int set(int,int,int)
        int paced(int,int)
        int seat(int,int,int)
        int change(int)
        int worth(int,int)
        int round(int,int)
        int meets(int,int,int)
        int late(int,int,int,int)
        int period(int)
        int papers(int)
        int flown(int)
        int which(int)
        int see(int,int,int)
        int sat(int)
        long odds(int,int,int)
        long mean(int,int,int)
        int even(int)
        int rule(int,int)
        int ruled(int,int)
        int book(int,int,int)
        int looked()
        int act(int,int,int)
        int trace(int)
        int as(int,int)
        int image()
        int undo()
        int count(int)
        """;

    public static void main(String[] args) throws Exception {
        face();
        hidden();
        text();
        memory();
        due.end();
    }

    private static void face() {
        due.isTrue("public and final", Modifier.isPublic(OneFan.class.getModifiers())
            && Modifier.isFinal(OneFan.class.getModifiers()));
        Set<String> methods = new TreeSet<>();
        for (Method method : OneFan.class.getDeclaredMethods()) {
            if (Modifier.isPublic(method.getModifiers())) {
                methods.add(method.getReturnType() + " " + method.getName() + Arrays.stream(method.getParameterTypes())
                    .map(Class::toString).collect(Collectors.joining(",", "(", ")")));
            }
        }
        due.isTrue("the public methods", methods.equals(new TreeSet<>(FACE.lines().toList())));
        Constructor<?>[] constructors = OneFan.class.getDeclaredConstructors();
        due.isTrue("the constructor", constructors.length == 1 && Modifier.isPublic(constructors[0].getModifiers())
            && constructors[0].getParameterCount() == 0);
        Set<String> fields = new TreeSet<>();
        for (Field field : OneFan.class.getDeclaredFields()) {
            if (Modifier.isPublic(field.getModifiers())) {
                fields.add(Modifier.toString(field.getModifiers()) + " " + field.getType() + " " + field.getName());
            }
        }
        due.isTrue("the constants", fields.equals(Set.of("public static final int NONE", "public static final int BAD",
            "public static final int STATE", "public static final int FULL", "public static final long NO")));
    }

    private static void hidden() {
        Set<String> names = new HashSet<>();
        for (Method method : OneFan.class.getDeclaredMethods()) {
            if (Modifier.isPublic(method.getModifiers())) {
                names.add(method.getName());
            }
        }
        for (Method method : OneFan.class.getDeclaredMethods()) {
            int is = method.getModifiers();
            due.isTrue(method + " is public or private", Modifier.isPublic(is) || Modifier.isPrivate(is));
            due.isTrue(method + " has no public one's name", Modifier.isPublic(is) || !names.contains(method.getName()));
        }
        for (Field field : OneFan.class.getDeclaredFields()) {
            int is = field.getModifiers();
            due.isTrue(field + " is public or private", Modifier.isPublic(is) || Modifier.isPrivate(is));
            due.isTrue(field + " is final, if static", Modifier.isFinal(is) || !Modifier.isStatic(is));
        }
        Class<?>[] inside = OneFan.class.getDeclaredClasses();
        due.isTrue("twelve classes at most", inside.length + 1 <= 12);
        for (Class<?> one : inside) {
            int is = one.getModifiers();
            due.isTrue(one + " is static", Modifier.isStatic(is) && !Modifier.isPublic(is) && !Modifier.isProtected(is));
            long fields = Arrays.stream(one.getDeclaredFields()).filter(f -> !Modifier.isStatic(f.getModifiers())).count();
            due.isTrue(one + " has twenty fields at most", fields <= 20);
            for (Method method : one.getDeclaredMethods()) {
                due.isTrue(method + " takes seven at most", method.getParameterCount() <= 7);
            }
        }
    }

    private static void text() throws Exception {
        String text = Files.readString(Path.of("src/main/java/OneFan.java"));
        due.isTrue("signs 10 and 32 to 126 alone", text.chars().allMatch(c -> c == 10 || c >= 32 && c <= 126));
        String code = text.replaceAll("(?s)/\\*.*?\\*/", " ").replaceAll("//[^\n]*", " ").replaceAll("\"[^\"]*\"", "\"\"");
        for (String word : List.of("throw", "throws", "try", "catch", "finally", "synchronized", "assert", "import",
            "package", "native", "volatile", "transient", "float", "double", "Object", "Thread", "System.out")) {
            due.isTrue("no " + word, !code.matches("(?s).*\\b" + word.replace(".", "\\.") + "\\b.*"));
        }
        for (String part : List.of("->", "::", "@", "Exact", "static {")) {
            due.isTrue("no " + part, !code.contains(part));
        }
    }

    /** Calls that are among the dearest: 512 of them may fill a small part of the room alone. */
    private static void memory() {
        com.sun.management.ThreadMXBean threads = (com.sun.management.ThreadMXBean) ManagementFactory.getThreadMXBean();
        for (int dear = 0; dear < 4; dear++) {
            OneFan x = Due.withRoom("hot 50;warm 3 p<5|h>3&!r=2;cool 9 (s=1|t>4)");
            for (int i = 0; i < 4; i++) {
                x.fan(6, 3, 2, 7, 2);
            }
            for (int i = 0; i < 6; i++) {
                x.sitter(i, 50);
            }
            x.image();
            long before = threads.getThreadAllocatedBytes(Thread.currentThread().getId());
            for (int call = 0; call < 400; call++) {
                switch (dear) {
                    case 0 -> x.set(0, 30, 0);
                    case 1 -> x.undo();
                    case 2 -> x.image();
                    default -> x.room();
                }
            }
            long bytes = threads.getThreadAllocatedBytes(Thread.currentThread().getId()) - before;
            due.isTrue("dear call " + dear + " takes little: " + bytes, bytes < 1_000_000);
        }
    }
}
