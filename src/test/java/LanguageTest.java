import java.io.File;
import java.io.PrintWriter;
import java.io.StringWriter;
import java.lang.reflect.Constructor;
import java.lang.reflect.Field;
import java.lang.reflect.Method;
import java.lang.reflect.Modifier;
import java.nio.charset.StandardCharsets;
import java.nio.file.Files;
import java.nio.file.Path;
import java.util.ArrayList;
import java.util.HashMap;
import java.util.HashSet;
import java.util.List;
import java.util.Map;
import java.util.Optional;
import java.util.Set;
import java.util.TreeSet;
import java.util.regex.Matcher;
import java.util.regex.Pattern;
import java.util.spi.ToolProvider;

/** What can be told of the rules in ../shared/LANGUAGE.md by looking at the class, its source and what the compiler made. */
public final class LanguageTest {
    private static final String[] FACE = {
        "int feed(int,int,int,int,int)", "int rules(int)", "int net(int)", "int fault(int)",
        "boolean floor(int,int)", "boolean wall(int,int,boolean)", "boolean bell(int)", "boolean lift(int,int)",
        "int wipe()", "int tick(int)", "int run(int)", "int mouse(int)", "int look(int,int)", "int comes(int)",
        "int second(int,int)", "int held(int,int,int)", "int longest(int,int,int)", "int needs(int,int,int)",
        "int knows(int)", "int pull(int)", "int pullRun(int)", "int relays()", "int race()",
        "boolean stick(int,int)", "int stuck()", "int same(int)", "int suspects(int,int)", "int trial(int,int)",
        "boolean keep(int)", "boolean restore(int)", "int count(int)"};

    /** Words that no rule allows in code, whatever stands around them. */
    private static final String[] FORBIDDEN = {"::", "finally", "synchronized", "assert", "hashCode", "getMessage",
        "import java.util.*", "static {", "protected", "package", "\t"};

    /** Rule 4, and what the compiler itself calls for enums, records and lists of Integer. */
    private static final Pattern LIBRARY = Pattern.compile(
        "java/lang/(Object|Enum|Record|String|StringBuilder)\\.\"<init>\""
        + "|java/lang/String\\.(length|charAt|isEmpty|equals|indexOf|substring|toCharArray)"
        + "|java/lang/StringBuilder\\.(append|charAt|setCharAt|setLength|deleteCharAt|reverse|length|toString)"
        + "|java/util/ArrayList\\.\"<init>\""
        + "|java/util/(ArrayList|List)\\.(add|get|set|remove|size|isEmpty|clear|iterator|of)"
        + "|java/util/Iterator\\.(hasNext|next)|java/lang/Iterable\\.iterator|java/lang/Comparable\\.compareTo"
        + "|java/lang/Enum\\.(valueOf|ordinal)|java/lang/Integer\\.intValue"
        + "|java/lang/(Integer|Long|Math)\\.\\w+(?<!Exact)"
        + "|java/lang/System\\.arraycopy|java/util/Arrays\\.(copyOf|copyOfRange|fill)|\"\\[.*\"\\.clone"
        + "|(java/lang/(IllegalState|IllegalArgument|IndexOutOfBounds|Arithmetic|UnsupportedOperation|Runtime)Exception"
        + "|java/util/NoSuchElementException)\\.\"<init>\"");

    /** Rule 6; what the machine throws itself is not to be caught, by its own name or by a class above it. */
    private static final Pattern CAUGHT = Pattern.compile(
        "Class java/(lang/(IllegalState|IllegalArgument|UnsupportedOperation)|util/NoSuchElement)Exception");

    /** Rule 3. */
    private static final Set<String> TYPES = Set.of("java.lang.String", "java.lang.StringBuilder", "java.lang.Integer",
        "java.lang.Object", "java.util.ArrayList", "java.util.List", "java.util.Iterator");

    private final Check check = new Check("LanguageTest");
    private final Map<String, Set<String>> calls = new HashMap<>();

    public static void main(String[] args) throws Exception {
        LanguageTest test = new LanguageTest();
        List<Class<?>> all = new ArrayList<>(List.of(RelayMouse.class.getDeclaredClasses()));
        all.add(RelayMouse.class);
        test.face();
        test.classes(all);
        for (Class<?> one : all) {
            test.methods(one);
            test.fields(one);
        }
        test.source();
        test.compiled();
        test.check.end();
    }

    private static String signature(Method method) {
        StringBuilder text = new StringBuilder();
        text.append(method.getReturnType().getSimpleName()).append(' ').append(method.getName()).append('(');
        Class<?>[] types = method.getParameterTypes();
        for (int i = 0; i < types.length; i++) {
            text.append(i == 0 ? "" : ",").append(types[i].getSimpleName());
        }
        return text.append(')').toString();
    }

    private void face() throws Exception {
        Class<?> face = RelayMouse.class;
        check.due("1 public and final", face.getModifiers(), Modifier.PUBLIC | Modifier.FINAL);
        Set<String> due = new TreeSet<>(List.of(FACE));
        Set<String> found = new TreeSet<>();
        for (Method method : face.getDeclaredMethods()) {
            if (!Modifier.isPrivate(method.getModifiers())) {
                found.add(signature(method));
                check.due("1 " + method + " is public and of the object", method.getModifiers(), Modifier.PUBLIC);
            }
        }
        check.due("1 the methods " + found, found.equals(due), true);
        for (Field field : face.getDeclaredFields()) {
            boolean constant = field.getName().equals("NONE") || field.getName().equals("NEVER");
            check.due("1 " + field + " is private", Modifier.isPrivate(field.getModifiers()), !constant);
        }
        check.due("1 NONE", RelayMouse.NONE, -1);
        check.due("1 NEVER", RelayMouse.NEVER, -2);
        check.due("1 constructors", face.getDeclaredConstructors().length, 1);
        Constructor<?> constructor = face.getDeclaredConstructors()[0];
        check.due("1 a public constructor", constructor.getModifiers(), Modifier.PUBLIC);
        check.due("1 it takes nothing", constructor.getParameterCount(), 0);
        List<Class<?>> thrown = List.of(face.getMethod("look", int.class, int.class).getExceptionTypes());
        check.due("1 look throws", thrown.equals(
            List.of(IndexOutOfBoundsException.class, java.util.NoSuchElementException.class)), true);
    }

    private void classes(List<Class<?>> all) {
        check.due("11 at most twelve classes", all.size() <= 12, true);
        for (Class<?> inside : RelayMouse.class.getDeclaredClasses()) {
            check.due("1 " + inside + " is static", Modifier.isStatic(inside.getModifiers()), true);
            check.due("1 " + inside + " is private or package-visible",
                (inside.getModifiers() & (Modifier.PUBLIC | Modifier.PROTECTED)) == 0, true);
        }
    }

    private void methods(Class<?> one) {
        Set<String> names = new HashSet<>();
        for (String signature : FACE) {
            names.add(signature.substring(signature.indexOf(' ') + 1, signature.indexOf('(')));
        }
        for (Method method : one.getDeclaredMethods()) {
            boolean hidden = Modifier.isPrivate(method.getModifiers());
            check.due("1 " + method + " bears no public name", hidden && names.contains(method.getName()), false);
            check.due("11 " + method + " has at most seven parameters", method.getParameterCount() <= 7, true);
            check.due("3 " + method + " answers a type that is allowed",
                method.getReturnType() == void.class || isAllowed(method.getReturnType()), true);
            for (Class<?> type : method.getParameterTypes()) {
                check.due("3 " + method + " takes types that are allowed", isAllowed(type), true);
            }
        }
    }

    private void fields(Class<?> one) {
        int fields = 0;
        for (Field field : one.getDeclaredFields()) {
            boolean isStatic = Modifier.isStatic(field.getModifiers());
            fields += isStatic ? 0 : 1;
            check.due("3 " + field + " is of a type that is allowed", isAllowed(field.getType()), true);
            check.due("5 " + field + " is final, if it is static",
                !isStatic || Modifier.isFinal(field.getModifiers()), true);
        }
        check.due("11 " + one + " has at most twenty fields", fields <= 20, true);
    }

    private static boolean isAllowed(Class<?> type) {
        if (type.isArray()) {
            Class<?> part = type.getComponentType();
            return part.isArray() ? part.getComponentType().isPrimitive() : isAllowed(part);
        }
        return type.isPrimitive() || type.getName().startsWith("RelayMouse") || TYPES.contains(type.getName());
    }

    private void source() throws Exception {
        String path = "src/main/java/RelayMouse.java";
        String text = Files.readString(Path.of(path), StandardCharsets.ISO_8859_1);
        List<String> code = new ArrayList<>();
        for (String line : text.split("\n")) {
            String bare = line.strip();
            boolean comment = bare.startsWith("//") || bare.startsWith("*") || bare.startsWith("/*");
            code.add(comment ? "" : line);
        }
        String all = String.join("\n", code);
        for (String word : FORBIDDEN) {
            check.due("forbidden: " + word,
                Pattern.compile("(?<![A-Za-z])" + Pattern.quote(word) + "(?![a-z])").matcher(all).find(), false);
        }
        check.due("4 signs beyond 127", text.chars().anyMatch(c -> c > 127), false);
        lengths(code);
    }

    /** Methods begin and end at the same depth of four or eight blanks. */
    private void lengths(List<String> code) {
        for (String margin : new String[] {"    ", "        "}) {
            int from = -1;
            for (int i = 0; i < code.size(); i++) {
                String line = code.get(i);
                if (line.startsWith(margin) && !line.startsWith(margin + " ") && line.endsWith(") {")) {
                    from = i;
                } else if (line.equals(margin + "}") && from >= 0) {
                    check.due("11 at most sixty lines: " + code.get(from), i - from <= 60, true);
                    from = -1;
                }
            }
        }
    }

    /** What is called, how deep, and what is caught. */
    private void compiled() throws Exception {
        Optional<ToolProvider> javap = ToolProvider.findFirst("javap");
        if (javap.isEmpty()) {
            System.out.println("LanguageTest: no javap here, so what is called isn't looked at");
            return;
        }
        File place = new File(RelayMouse.class.getProtectionDomain().getCodeSource().getLocation().toURI());
        for (File file : place.listFiles()) {
            if (file.getName().matches("RelayMouse(\\$\\w+)*\\.class")) {
                StringWriter text = new StringWriter();
                javap.get().run(new PrintWriter(text), new PrintWriter(text), "-c", "-p", file.getPath());
                readClass(file.getName().replace(".class", ""), text.toString());
            }
        }
        for (Method method : RelayMouse.class.getDeclaredMethods()) {
            String name = "RelayMouse." + method.getName();
            check.due(name + " was found", calls.containsKey(name), true);
            int depth = depth(name, new HashSet<>());
            check.due("11 " + name + " calls at most eight deep: " + depth, depth <= 8, true);
        }
    }

    private void readClass(String className, String text) {
        check.due("2, 10 " + className + " has no lambda and joins no texts by +", text.contains("invokedynamic"), false);
        Pattern called = Pattern.compile("// (?:Interface)?Method (\\S+?):");
        String method = "";
        for (String line : text.split("\n")) {
            if (line.matches("  \\S.*\\(.*\\).*;")) {
                String head = line.substring(0, line.indexOf('('));
                String name = head.substring(head.lastIndexOf(' ') + 1);
                method = className + "." + (name.equals(className) ? "\"<init>\"" : name);
                calls.computeIfAbsent(method, key -> new HashSet<>());
            }
            Matcher match = called.matcher(line);
            if (match.find()) {
                String callee = match.group(1).contains(".") ? match.group(1) : className + "." + match.group(1);
                calls.get(method).add(callee);
                check.due("4 " + method + " calls " + callee,
                    callee.startsWith("RelayMouse") || LIBRARY.matcher(callee).matches(), true);
            }
            if (line.contains("athrow")) {
                check.due("6 no throw in a constructor of " + className, method.endsWith("\"<init>\""), false);
            }
            if (line.matches("\\s+\\d+\\s+\\d+\\s+\\d+\\s+(any|Class .*)")) {
                check.due("6 " + method + " catches what may be caught: " + line, CAUGHT.matcher(line).find(), true);
            }
        }
    }

    /** A call of a method that stands open already is a recursion, and isn't counted. */
    private int depth(String method, Set<String> open) {
        if (!open.add(method)) {
            return 0;
        }
        int deepest = 0;
        for (String callee : calls.getOrDefault(method, Set.of())) {
            deepest = Math.max(deepest, depth(callee, open));
        }
        open.remove(method);
        return deepest + 1;
    }
}
