import java.lang.management.ManagementFactory;
import java.lang.reflect.Constructor;
import java.lang.reflect.Field;
import java.lang.reflect.InvocationTargetException;
import java.lang.reflect.Method;
import java.lang.reflect.Modifier;
import java.nio.charset.StandardCharsets;
import java.nio.file.Files;
import java.nio.file.Path;
import java.util.ArrayList;
import java.util.Arrays;
import java.util.List;
import java.util.TreeSet;
import java.util.regex.Matcher;
import java.util.regex.Pattern;

/** The face of the class, the rules of LANGUAGE.md that a test can see, and calls with arguments of any kind. */
public final class LanguageTest {
    private static final String[] FACE = {
        "int cut(int,boolean)", "int best()", "int greedy()", "int again()", "int mirror()", "int set(int,int)",
        "int append(int)", "int clear()", "int fault(int)", "int load()", "int play()", "int stripe(int)",
        "int coat(int,int)", "int piece(int,int,int)", "int count(int)", "int left(int)", "int worth(int,boolean)",
        "int lead(int)", "int leadWith(int,boolean)", "int bestCut()", "int ended(int,int,int)", "double rate()",
        "int undo()", "int save()", "int restore()"};
    private static final String[] CONSTANTS = {"INVALID_ARGUMENT=-1", "NOT_POSSIBLE=-2", "LIMIT_REACHED=-3",
        "NOT_FOUND=-4", "LONGEST=0", "FOLD=1", "MATCH=2"};
    private static final String[] RULED_OUT = {"->", "::", "catch", "finally", "synchronized", "assert ", "package ",
        "Random", "Thread", "Exact(", "extends ", "throw", "\" +", "+ \""};
    /** What of the library LANGUAGE.md lists, and the program uses; its static constants are not listed there. */
    private static final List<String> LIBRARY = List.of("Math.max", "Math.min", "System.arraycopy", "Arrays.fill");
    private static final Pattern LIBRARY_USE = Pattern.compile(
        "\\b(Math|Integer|Long|Short|Byte|Character|Boolean|Double|Float|String|StringBuilder|System|Arrays|List|Objects)\\.\\w+");
    private static final int[] ODD = {Integer.MIN_VALUE, -1000, -5, -1, 0, 1, 2, 3, 4, 5, 6, 9, 13, 20, 33, 97, 126, 1000,
        Integer.MAX_VALUE - 1, Integer.MAX_VALUE};

    private static int wrong = 0;

    private static void check(boolean right, String what) {
        if (!right) {
            wrong++;
            System.out.println("language: " + what);
        }
    }

    public static void main(String[] args) throws Exception {
        face();
        classes();
        source();
        oddArguments();
        fewObjects();
        System.out.println(wrong == 0 ? "language: all rules are kept" : "language: " + wrong + " rules are broken");
        if (wrong != 0) {
            System.exit(1);
        }
    }

    private static void face() throws Exception {
        TreeSet<String> methods = new TreeSet<>();
        TreeSet<String> names = new TreeSet<>();
        for (Method method : BoltTailors.class.getDeclaredMethods()) {
            if (Modifier.isPublic(method.getModifiers())) {
                StringBuilder types = new StringBuilder();
                for (Class<?> type : method.getParameterTypes()) {
                    types.append(types.length() == 0 ? "" : ",").append(type.getName());
                }
                methods.add(method.getReturnType().getName() + " " + method.getName() + "(" + types + ")");
                names.add(method.getName());
                check(!Modifier.isStatic(method.getModifiers()), method + " is static");
            } else {
                check(Modifier.isPrivate(method.getModifiers()), method + " is seen outside");
            }
        }
        check(methods.equals(new TreeSet<>(Arrays.asList(FACE))), "the face is " + methods);
        for (Class<?> type : allClasses()) {
            for (Method method : type.getDeclaredMethods()) {
                check(Modifier.isPublic(method.getModifiers()) || !names.contains(method.getName()), method + " bears a name of the face");
            }
        }
        TreeSet<String> constants = new TreeSet<>();
        for (Field field : BoltTailors.class.getDeclaredFields()) {
            if (Modifier.isPublic(field.getModifiers())) {
                constants.add(field.getName() + "=" + field.getInt(null));
            } else {
                check(Modifier.isPrivate(field.getModifiers()), field + " is seen outside");
            }
        }
        check(constants.equals(new TreeSet<>(Arrays.asList(CONSTANTS))), "the constants are " + constants);
        Constructor<?>[] made = BoltTailors.class.getDeclaredConstructors();
        check(made.length == 1 && Modifier.isPublic(made[0].getModifiers()) && made[0].getParameterCount() == 0, "the constructor");
        check(Modifier.isFinal(BoltTailors.class.getModifiers()), "the class is not final");
    }

    private static List<Class<?>> allClasses() {
        List<Class<?>> classes = new ArrayList<>(List.of(BoltTailors.class));
        classes.addAll(Arrays.asList(BoltTailors.class.getDeclaredClasses()));
        return classes;
    }

    private static void classes() {
        check(allClasses().size() <= 12, "too many classes");
        for (Class<?> type : allClasses()) {
            int fields = 0;
            for (Field field : type.getDeclaredFields()) {
                boolean constant = Modifier.isStatic(field.getModifiers());
                fields += constant ? 0 : 1;
                check(!constant || Modifier.isFinal(field.getModifiers()), field + " is static and not final");
            }
            check(fields <= 20, type + " has " + fields + " fields");
            for (Method method : type.getDeclaredMethods()) {
                check(method.getParameterCount() <= 7, method + " takes too much");
            }
        }
    }

    private static void source() throws Exception {
        byte[] bytes = Files.readAllBytes(Path.of("src/main/java/BoltTailors.java"));
        for (byte sign : bytes) {
            check(sign > 0, "a sign outside 1 to 127");
        }
        String[] lines = new String(bytes, StandardCharsets.US_ASCII).split("\n", -1);
        int start = 0;
        for (int i = 0; i < lines.length; i++) {
            String line = lines[i];
            check(!line.startsWith("import ") || line.equals("import java.util.Arrays;"), line);
            boolean comment = line.trim().startsWith("/") || line.trim().startsWith("*");
            for (String word : RULED_OUT) {
                check(comment || !line.contains(word), "line " + (i + 1) + " has " + word);
            }
            Matcher use = LIBRARY_USE.matcher(comment || line.startsWith("import ") ? "" : line);
            while (use.find()) {
                check(LIBRARY.contains(use.group()), "line " + (i + 1) + " uses " + use.group());
            }
            if (line.matches(" {4}( {4})?[a-z].*\\) \\{")) {
                start = i;
            }
            if (line.matches(" {4}( {4})?\\}")) {
                check(i - start < 60, "the method at line " + (start + 1) + " is long");
            }
        }
    }

    /** Every call with odd arguments, in many states; nothing may be thrown, whatever is answered. */
    private static void oddArguments() throws Exception {
        Method[] calls = new Method[FACE.length];
        int found = 0;
        for (String name : FACE) {
            for (Method method : BoltTailors.class.getDeclaredMethods()) {
                if (method.getName().equals(name.substring(name.indexOf(' ') + 1, name.indexOf('(')))) {
                    calls[found++] = method;
                }
            }
        }
        long seed = 7;
        for (int run = 0; run < 300; run++) {
            BoltTailors x = new BoltTailors();
            for (int step = 0; step < 500; step++) {
                seed = seed * 6364136223846793005L + 1442695040888963407L;
                Method call = calls[(int) ((seed >>> 33) % found)];
                Object[] values = new Object[call.getParameterCount()];
                for (int i = 0; i < values.length; i++) {
                    seed = seed * 6364136223846793005L + 1442695040888963407L;
                    int drawn = (int) ((seed >>> 33) % 1000);
                    values[i] = call.getParameterTypes()[i] == boolean.class ? (Object) (drawn % 2 == 0) : (Object) odd(call, drawn);
                }
                try {
                    call.invoke(x, values);
                } catch (InvocationTargetException e) {
                    check(false, call + " of " + Arrays.toString(values) + " threw " + e.getCause());
                    return;
                }
            }
        }
    }

    private static int odd(Method call, int drawn) {
        String signs = "abcdefl1r2bg*+05";
        boolean text = call.getName().equals("append") && drawn % 5 != 0;
        return text ? signs.charAt(drawn % signs.length()) : ODD[drawn % ODD.length];
    }

    /** All calls of a run live in one room, so that no call makes objects: the constructor makes what they need. */
    private static void fewObjects() {
        com.sun.management.ThreadMXBean bean = (com.sun.management.ThreadMXBean) ManagementFactory.getThreadMXBean();
        long id = Thread.currentThread().getId();
        long most = 0;
        for (int run = 0; run < 3; run++) {
            long before = bean.getThreadAllocatedBytes(id);
            BoltTailors x = new BoltTailors();
            long made = bean.getThreadAllocatedBytes(id) - before;
            check(made < 200_000, "an object takes " + made + " bytes");
            before = bean.getThreadAllocatedBytes(id);
            for (int i = 0; i < 20; i++) {
                everyCall(x, i);
            }
            most = bean.getThreadAllocatedBytes(id) - before;
        }
        check(most < 2_000, "the calls make " + most + " bytes");
    }

    private static void everyCall(BoltTailors x, int i) {
        x.append('a' + i % 6);
        x.append('b');
        x.append('*');
        x.append('1');
        x.append('9');
        x.fault(0);
        x.load();
        x.set(i % 3, 1 + i % 4);
        x.save();
        x.append('b');
        x.append('g');
        x.append('l');
        x.append('1');
        x.fault(1);
        x.play();
        x.lead(0);
        x.lead(1);
        x.leadWith(1, true);
        x.bestCut();
        x.ended(i & 1, i >> 1 & 1, i % 3);
        x.worth(1, false);
        x.rate();
        x.cut(1, false);
        x.best();
        x.greedy();
        x.mirror();
        x.again();
        x.restore();
        x.undo();
        for (int what = 0; what <= 13; what++) {
            x.count(what);
        }
        x.coat(0, i % 6);
        x.piece(0, 0, i % 4);
        x.left(i % 6);
        x.stripe(i);
        x.clear();
    }
}
