import java.lang.management.ManagementFactory;
import java.lang.reflect.Field;
import java.lang.reflect.Method;
import java.lang.reflect.Modifier;
import java.nio.file.Files;
import java.nio.file.Path;
import java.util.ArrayList;
import java.util.Arrays;
import java.util.List;
import java.util.TreeSet;
import java.util.regex.Matcher;
import java.util.regex.Pattern;

/** What LANGUAGE.md asks of the source, as far as a plain look at it can tell, and that calls make no objects. */
public final class LanguageTests {
    private static final String FACE = "as(int,int) body(int) cast(int,int,int) casts(int) check(int) count(int) "
        + "days(int) decree() drink(int) feed(long,int) have(int,int) image() inCase(int) judge(int,int) "
        + "lay(int,int) letterIs(int,int) lost(int) melt(int) move(int,int,int,int,int) needs(int,int) "
        + "order(int,int) pageIs(int,int) press(int,int) put(int,int,int) restore() room(int,int) run(int,int) "
        + "said(int) seed(int) set(int,int,int) sheet(int,int,int) sort(int) tell(int) text(int) "
        + "then(int,int,int) told(int) untell(int) voice(int,int,int) word()";

    private static final String[] FORBIDDEN = {"throw", "throws", "try", "catch", "synchronized", "assert", "import",
        "package", "->", "::", "hashCode", "toString", "Exact", "volatile", "native", "goto"};

    private static int wrong = 0;

    private static void expect(boolean good, String what) {
        if (!good) {
            wrong++;
            System.out.println("not so: " + what);
        }
    }

    private static void face() {
        TreeSet<String> methods = new TreeSet<>();
        for (Method method : IceType.class.getDeclaredMethods()) {
            if (!Modifier.isPrivate(method.getModifiers()) && !method.isSynthetic()) {
                StringBuilder one = new StringBuilder(method.getName()).append('(');
                for (Class<?> type : method.getParameterTypes()) {
                    one.append(one.charAt(one.length() - 1) == '(' ? "" : ",").append(type.getName());
                }
                methods.add(one.append(')').toString());
                expect(method.getReturnType() == int.class && Modifier.isPublic(method.getModifiers())
                    && !Modifier.isStatic(method.getModifiers()), method + " is of the face");
            }
        }
        expect(methods.equals(new TreeSet<>(Arrays.asList(FACE.split(" ")))), "the face: " + methods);
        for (Field field : IceType.class.getDeclaredFields()) {
            expect(Modifier.isPrivate(field.getModifiers()), field + " is private");
        }
        expect(Modifier.isFinal(IceType.class.getModifiers()), "the class is final");
        expect(IceType.class.getDeclaredConstructors().length == 1, "one constructor");
        expect(IceType.class.getDeclaredClasses().length < 12, "at most twelve classes");
        for (Class<?> inside : IceType.class.getDeclaredClasses()) {
            expect(Modifier.isStatic(inside.getModifiers()), inside + " is static");
            innerNames(inside);
        }
        innerNames(IceType.class);
    }

    private static void innerNames(Class<?> of) {
        TreeSet<String> faceNames = new TreeSet<>();
        for (String one : FACE.split(" ")) {
            faceNames.add(one.substring(0, one.indexOf('(')));
        }
        int fields = 0;
        for (Field field : of.getDeclaredFields()) {
            boolean constant = Modifier.isStatic(field.getModifiers());
            expect(!constant || Modifier.isFinal(field.getModifiers()), field + " is final");
            fields += constant ? 0 : 1;
        }
        expect(fields <= 20, of + " has some twenty fields");
        for (Method method : of.getDeclaredMethods()) {
            boolean ofFace = of == IceType.class && Modifier.isPublic(method.getModifiers());
            expect(ofFace || !faceNames.contains(method.getName()), method + " has a name of its own");
            expect(method.getParameterCount() <= 7, method + " takes at most seven");
        }
    }

    private static void words(String source) {
        String code = source.replaceAll("(?s)/\\*.*?\\*/", " ").replaceAll("//[^\n]*", " ");
        for (String word : FORBIDDEN) {
            boolean sign = !Character.isLetter(word.charAt(0));
            Matcher found = Pattern.compile(sign ? Pattern.quote(word) : "\\b" + word + "\\b").matcher(code);
            expect(!found.find(), "the source does without " + word);
        }
        expect(source.chars().allMatch(c -> c == '\n' || c >= 32 && c < 127), "plain signs alone");
        expect(!code.contains("static {"), "no static initialiser");
        List<String> lines = new ArrayList<>(Arrays.asList(source.split("\n")));
        int begun = -1;
        for (int i = 0; i < lines.size(); i++) {
            String line = lines.get(i);
            if (line.matches(" {4}(?: {4})?\\S.*\\) \\{")) {
                begun = i;
            }
            if (line.matches(" {4}(?: {4})?\\}") && begun >= 0) {
                expect(i - begun < 60, "a method of some sixty lines: " + lines.get(begun).trim());
                begun = -1;
            }
        }
    }

    private static void someCalls(IceType x) {
        x.have(4, 99999);
        for (int i = 0; i < 24; i++) {
            x.cast(10 * (i % 7) + i % 10, 1 + i % 26, 900);
            x.lay(i % 4, i);
        }
        x.feed(0x632D39L, 3);
        x.text(0);
        x.feed(0x6162L, 2);
        x.word();
        x.image();
        x.press(0, 9);
        x.run(1, 99);
        x.lost(3);
        x.then(3, 50, 9);
        x.order(20, -1);
        x.room(2, 99);
        x.needs(6, 30);
        x.said(0);
        x.sort(1);
        x.inCase(2);
        x.days(20);
        x.voice(3, 2, 7);
        x.sheet(0, 8, 24);
        x.put(0, 3, 4);
        x.move(0, 0, 0, 1, 20);
        x.casts(0);
        x.judge(0, 0);
        x.tell(4);
        x.check(0);
        x.restore();
        x.told(9);
    }

    private static void objects() {
        com.sun.management.ThreadMXBean bean = (com.sun.management.ThreadMXBean) ManagementFactory.getThreadMXBean();
        long id = Thread.currentThread().getId();
        bean.getThreadAllocatedBytes(id);
        someCalls(new IceType());
        long start = bean.getThreadAllocatedBytes(id);
        long idle = bean.getThreadAllocatedBytes(id) - start;
        start = bean.getThreadAllocatedBytes(id);
        IceType x = new IceType();
        long made = bean.getThreadAllocatedBytes(id) - start - idle;
        expect(made < 20000, "a new object takes little room: " + made + " bytes");
        start = bean.getThreadAllocatedBytes(id);
        someCalls(x);
        long called = bean.getThreadAllocatedBytes(id) - start - idle;
        // A little is left for what the machine itself may do in between.
        expect(called < 1000, "calls make no objects: " + called + " bytes");
        System.out.println("a new object takes " + made + " bytes, calls " + called);
    }

    public static void main(String[] args) throws Exception {
        Path source = Path.of(args.length > 0 ? args[0] : "src/main/java/IceType.java");
        face();
        words(Files.readString(source));
        objects();
        if (wrong != 0) {
            System.exit(1);
        }
        System.out.println("the source keeps to the rules that are looked at");
    }
}
