import com.sun.management.ThreadMXBean;
import java.io.IOException;
import java.lang.management.ManagementFactory;
import java.lang.reflect.Constructor;
import java.lang.reflect.Field;
import java.lang.reflect.Method;
import java.lang.reflect.Modifier;
import java.nio.file.Files;
import java.nio.file.Path;
import java.util.Arrays;
import java.util.HashSet;
import java.util.List;
import java.util.Set;
import java.util.TreeSet;
import java.util.regex.Matcher;
import java.util.regex.Pattern;

/** The public face, what LANGUAGE.md rules out, and that no call makes objects once the house stands. */
public final class FaceTest {
    private static final String FACE = "arch/1 set/3 about/2 isOf/2 sheet/3 enter/3 copy/5 lose/1 feed/3 trim/1 gift/0 "
        + "purse/2 funds/1 rule/2 spend/2 work/2 years/1 row/2 roll/2 sum/0 spent/2 count/1";
    private static final String CONSTANTS = "BAD NO FULL NONE NOTHING INDEX SIZE";
    private static final List<String> RULED_OUT = List.of("throw", "try", "catch", "finally", "throws", "synchronized",
        "assert", "import", "package", "protected", "native", "volatile", "->", "::", "Exact", "hashCode", "toString",
        "equals", "getClass", "Object", "Thread", "double", "float", "var", "java.", "static {", "@");

    private static final Set<String> LIBRARY = Set.of("System.arraycopy", "Math.max", "Math.min");

    private FaceTest() {
    }

    public static void main(String[] args) throws IOException {
        publicMethods();
        publicConstants();
        otherMembers();
        classesInside();
        words();
        methodLengths();
        noObjects();
        Checks.end();
    }

    private static void publicMethods() {
        Set<String> found = new TreeSet<>();
        for (Method m : BridgeHouse.class.getDeclaredMethods()) {
            if (Modifier.isPublic(m.getModifiers())) {
                found.add(m.getName() + "/" + m.getParameterCount());
                Checks.holds(m.getName() + " answers an int", m.getReturnType() == int.class);
                Checks.holds(m.getName() + " is of an object", !Modifier.isStatic(m.getModifiers()));
                Checks.holds(m.getName() + " takes ints",
                    Arrays.stream(m.getParameterTypes()).allMatch(t -> t == int.class));
            }
        }
        Checks.holds("the public methods are " + FACE, found.equals(new TreeSet<>(List.of(FACE.split(" ")))));
        Checks.holds("the class is public and final",
            Modifier.isPublic(BridgeHouse.class.getModifiers()) && Modifier.isFinal(BridgeHouse.class.getModifiers()));
        Constructor<?>[] made = BridgeHouse.class.getDeclaredConstructors();
        Checks.holds("one public constructor", made.length == 1 && Modifier.isPublic(made[0].getModifiers())
            && made[0].getParameterCount() == 0);
    }

    private static void publicConstants() {
        Set<String> found = new TreeSet<>();
        for (Field f : BridgeHouse.class.getDeclaredFields()) {
            if (Modifier.isPublic(f.getModifiers())) {
                found.add(f.getName());
            }
        }
        Checks.holds("the public constants are " + CONSTANTS, found.equals(new TreeSet<>(List.of(CONSTANTS.split(" ")))));
        int[] values = {BridgeHouse.BAD, BridgeHouse.NO, BridgeHouse.FULL, BridgeHouse.NONE, BridgeHouse.NOTHING,
            BridgeHouse.INDEX, BridgeHouse.SIZE};
        int[] ends = {1, 2, 3, 5, 11, 13, 14};
        for (int i = 0; i < values.length; i++) {
            Checks.due("constant " + i, values[i], -1000000000 - ends[i]);
        }
    }

    private static void otherMembers() {
        for (Method m : BridgeHouse.class.getDeclaredMethods()) {
            Checks.holds(m.getName() + " is public or private",
                Modifier.isPublic(m.getModifiers()) || Modifier.isPrivate(m.getModifiers()));
        }
        for (Field f : BridgeHouse.class.getDeclaredFields()) {
            Checks.holds(f.getName() + " is public or private",
                Modifier.isPublic(f.getModifiers()) || Modifier.isPrivate(f.getModifiers()));
            noStaticState(f);
        }
    }

    private static void noStaticState(Field f) {
        boolean isConstant = Modifier.isFinal(f.getModifiers()) && f.getType() == int.class;
        Checks.holds(f.getName() + " is not static state", !Modifier.isStatic(f.getModifiers()) || isConstant);
    }

    private static void classesInside() {
        Class<?>[] inside = BridgeHouse.class.getDeclaredClasses();
        Checks.holds("at most twelve classes", inside.length < 12);
        Set<String> face = new HashSet<>();
        for (String call : FACE.split(" ")) {
            face.add(call.substring(0, call.indexOf('/')));
        }
        for (Class<?> c : inside) {
            Checks.holds(c.getName() + " is static", Modifier.isStatic(c.getModifiers()));
            Checks.holds(c.getName() + " is not seen from outside",
                !Modifier.isPublic(c.getModifiers()) && !Modifier.isProtected(c.getModifiers()));
            Checks.holds(c.getName() + " has at most twenty fields", c.getDeclaredFields().length <= 20);
            for (Field f : c.getDeclaredFields()) {
                noStaticState(f);
            }
            for (Method m : c.getDeclaredMethods()) {
                Checks.holds(m.getName() + " bears no public name", !face.contains(m.getName()));
                Checks.holds(m.getName() + " takes at most seven", m.getParameterCount() <= 7);
            }
        }
        for (Method m : BridgeHouse.class.getDeclaredMethods()) {
            Checks.holds(m.getName() + " bears no public name",
                Modifier.isPublic(m.getModifiers()) || !face.contains(m.getName()));
        }
    }

    private static String source() throws IOException {
        String text = Files.readString(Path.of("src/main/java/BridgeHouse.java"));
        return text.replaceAll("(?s)/\\*.*?\\*/", "").replaceAll("//[^\n]*", "");
    }

    private static void words() throws IOException {
        String text = source();
        for (String word : RULED_OUT) {
            boolean isWord = word.chars().allMatch(Character::isLetter) && !word.equals("Exact");
            Matcher m = Pattern.compile(isWord ? "\\b" + word + "\\b" : Pattern.quote(word)).matcher(text);
            Checks.holds("no '" + word + "'", !m.find());
        }
        // Whatever else of the library is called by its class's name.
        Matcher m = Pattern.compile("\\b(System|Math|Arrays|Integer|Long|String|StringBuilder)\\.(\\w+)").matcher(text);
        while (m.find()) {
            Checks.holds("the library has " + m.group(), LIBRARY.contains(m.group()));
        }
        Checks.holds("signs are 1 to 127", text.chars().allMatch(c -> c > 0 && c < 128));
        Checks.holds("no text is joined by +", !text.contains("\" +") && !text.contains("+ \""));
    }

    private static void methodLengths() throws IOException {
        int start = 0;
        int line = 0;
        for (String row : source().split("\n")) {
            line++;
            if (row.matches("( {4}| {8})[a-zA-Z].*\\) \\{")) {
                start = line;
            }
            if (row.matches("( {4}| {8})\\}")) {
                Checks.holds("the method that ends in row " + line + " is short", line - start <= 60);
            }
        }
    }

    private static void noObjects() {
        ThreadMXBean bean = (ThreadMXBean) ManagementFactory.getThreadMXBean();
        BridgeHouse warm = Checks.houseWith(0, 1, 2, 3);
        play(warm);
        BridgeHouse x = Checks.houseWith(0, 1, 2, 3);
        long before = bean.getCurrentThreadAllocatedBytes();
        play(x);
        long made = bean.getCurrentThreadAllocatedBytes() - before;
        // Far under what 500 calls would take if each made a single row.
        Checks.holds("calls make no objects, but " + made + " bytes were made", made < 2000);
    }

    private static void play(BridgeHouse x) {
        for (int i = 0; i < 50; i++) {
            x.sheet(i % 4, 1, 200);
            x.enter(i % 4, i, 50);
            x.copy(i % 4, 0, i % 4, 1, 100);
            x.feed(0x35302066, 0x6f722077, 0x6f726b73);
            x.gift();
            x.about(i % 4, 6);
            x.about(i % 4, 5);
            x.work(i % 4, 5);
            x.years(i < 40 ? 4 : 1);
            x.lose(i % 4);
        }
    }
}
