import java.io.File;
import java.io.PrintWriter;
import java.io.StringWriter;
import java.lang.reflect.Constructor;
import java.lang.reflect.Field;
import java.lang.reflect.Method;
import java.lang.reflect.Modifier;
import java.nio.charset.StandardCharsets;
import java.nio.file.Files;
import java.nio.file.Path;
import java.util.ArrayList;
import java.util.HashMap;
import java.util.HashSet;
import java.util.List;
import java.util.Map;
import java.util.Optional;
import java.util.Set;
import java.util.TreeSet;
import java.util.regex.Matcher;
import java.util.regex.Pattern;
import java.util.spi.ToolProvider;

/** What can be told by looking at the class and its source of the rules in ../shared/LANGUAGE.md. */
public final class LanguageTest {
    private static final String[] FACE = {
        "int feed(int,int,int,int,int)", "int rules(int)", "int net(int)", "int fault(int)",
        "boolean floor(int,int)", "boolean wall(int,int,boolean)", "boolean bell(int)", "boolean lift(int,int)",
        "int wipe()", "int tick(int)", "int run(int)", "int mouse(int)", "int look(int,int)", "int comes(int)",
        "int second(int,int)", "int held(int,int,int)", "int longest(int,int,int)", "int needs(int,int,int)",
        "int knows(int)", "int pull(int)", "int pullRun(int)", "int relays()", "int race()",
        "boolean stick(int,int)", "int stuck()", "int same(int)", "int suspects(int,int)", "int trial(int,int)",
        "boolean keep(int)", "boolean restore(int)", "int count(int)"};
    private static final String[] FORBIDDEN = {"->", "::", "try", "catch", "finally", "synchronized", "assert",
        "Exact", "import java.util.*", "System.out", "System.nano", "System.current", "Random", "Thread", "equals",
        "hashCode", "toString", "getMessage", "float", "double", "static {", "protected", "\t"};

    private static final Set<String> LIBRARY = Set.of("java/lang/Object.\"<init>\"",
        "java/lang/IndexOutOfBoundsException.\"<init>\"", "java/util/NoSuchElementException.\"<init>\"",
        "java/lang/String.length", "java/lang/String.charAt", "java/lang/Integer.bitCount", "java/lang/Long.bitCount",
        "java/lang/Math.min");

    private final Check check = new Check("LanguageTest");
    private final Map<String, Set<String>> calls = new HashMap<>();

    public static void main(String[] args) throws Exception {
        LanguageTest test = new LanguageTest();
        test.face();
        test.classes();
        test.source();
        test.calls();
        test.check.end();
    }

    private static String signature(Method method) {
        StringBuilder text = new StringBuilder();
        text.append(method.getReturnType().getSimpleName()).append(' ').append(method.getName()).append('(');
        Class<?>[] types = method.getParameterTypes();
        for (int i = 0; i < types.length; i++) {
            text.append(i == 0 ? "" : ",").append(types[i].getSimpleName());
        }
        return text.append(')').toString();
    }

    private void face() throws Exception {
        Class<?> face = RelayMouse.class;
        check.due("public and final", face.getModifiers(), Modifier.PUBLIC | Modifier.FINAL);
        Set<String> due = new TreeSet<>(List.of(FACE));
        Set<String> found = new TreeSet<>();
        for (Method method : face.getDeclaredMethods()) {
            if (!Modifier.isPrivate(method.getModifiers())) {
                found.add(signature(method));
                check.due(method + " is public and of the object", method.getModifiers(), Modifier.PUBLIC);
            }
        }
        check.due("the methods " + found, found.equals(due), true);
        for (Field field : face.getDeclaredFields()) {
            boolean constant = field.getName().equals("NONE") || field.getName().equals("NEVER");
            check.due(field + " is private", Modifier.isPrivate(field.getModifiers()), !constant);
        }
        check.due("NONE", RelayMouse.NONE, -1);
        check.due("NEVER", RelayMouse.NEVER, -2);
        check.due("constructors", face.getDeclaredConstructors().length, 1);
        Constructor<?> constructor = face.getDeclaredConstructors()[0];
        check.due("a public constructor", constructor.getModifiers(), Modifier.PUBLIC);
        List<Class<?>> thrown = List.of(face.getMethod("look", int.class, int.class).getExceptionTypes());
        check.due("look throws", thrown.equals(
            List.of(IndexOutOfBoundsException.class, java.util.NoSuchElementException.class)), true);
    }

    private void classes() {
        Set<String> names = new HashSet<>();
        for (String signature : FACE) {
            names.add(signature.substring(signature.indexOf(' ') + 1, signature.indexOf('(')));
        }
        List<Class<?>> all = new ArrayList<>(List.of(RelayMouse.class.getDeclaredClasses()));
        check.due("at most twelve classes", all.size() + 1 <= 12, true);
        for (Class<?> inside : all) {
            check.due(inside + " is static", Modifier.isStatic(inside.getModifiers()), true);
            for (Method method : inside.getDeclaredMethods()) {
                check.due(method + " bears no name of the face", names.contains(method.getName()), false);
            }
        }
        all.add(RelayMouse.class);
        for (Class<?> one : all) {
            int fields = 0;
            for (Field field : one.getDeclaredFields()) {
                boolean isStatic = Modifier.isStatic(field.getModifiers());
                fields += isStatic ? 0 : 1;
                check.due(field + " is final, if it is static",
                    !isStatic || Modifier.isFinal(field.getModifiers()), true);
            }
            check.due(one + " has at most twenty fields", fields <= 20, true);
            for (Method method : one.getDeclaredMethods()) {
                check.due(method + " has at most seven parameters", method.getParameterCount() <= 7, true);
            }
        }
    }

    private void source() throws Exception {
        String path = "src/main/java/RelayMouse.java";
        String text = Files.readString(Path.of(path), StandardCharsets.ISO_8859_1);
        List<String> code = new ArrayList<>();
        for (String line : text.split("\n")) {
            String bare = line.strip();
            boolean comment = bare.startsWith("//") || bare.startsWith("*") || bare.startsWith("/*");
            code.add(comment ? "" : line);
            check.due("a line of at most 120 signs: " + line, line.length() <= 120, true);
        }
        String all = String.join("\n", code);
        for (String word : FORBIDDEN) {
            check.due("forbidden: " + word, all.matches("(?s).*(?<![A-Za-z])" + java.util.regex.Pattern.quote(word)
                + "(?![a-z]).*"), false);
        }
        check.due("signs beyond 127", text.chars().anyMatch(c -> c > 127), false);
        check.due("one import", all.split("import ").length, 2);
        check.due("no package", all.contains("package "), false);
        lengths(code);
    }

    /** Methods begin and end at the same depth of four or eight blanks. */
    private void lengths(List<String> code) {
        for (String margin : new String[] {"    ", "        "}) {
            int from = -1;
            for (int i = 0; i < code.size(); i++) {
                String line = code.get(i);
                if (line.startsWith(margin) && !line.startsWith(margin + " ") && line.endsWith(") {")) {
                    from = i;
                } else if (line.equals(margin + "}") && from >= 0) {
                    check.due("at most sixty lines: " + code.get(from), i - from <= 60, true);
                    from = -1;
                }
            }
        }
    }

    /** Rules 4, 6, 8 and 11, seen in what the compiler made: what is called, how deep, and nothing that catches. */
    private void calls() throws Exception {
        Optional<ToolProvider> javap = ToolProvider.findFirst("javap");
        if (javap.isEmpty()) {
            System.out.println("LanguageTest: no javap here, so what is called isn't looked at");
            return;
        }
        File place = new File(RelayMouse.class.getProtectionDomain().getCodeSource().getLocation().toURI());
        for (File file : place.listFiles()) {
            if (file.getName().matches("RelayMouse(\\$\\w+)?\\.class")) {
                StringWriter text = new StringWriter();
                javap.get().run(new PrintWriter(text), new PrintWriter(text), "-c", "-p", file.getPath());
                readCalls(file.getName().replace(".class", ""), text.toString());
            }
        }
        check.due("methods were found", calls.size() > 100, true);
        for (Method method : RelayMouse.class.getDeclaredMethods()) {
            String name = "RelayMouse." + method.getName();
            check.due(name + " was found", calls.containsKey(name), true);
            check.due(name + " calls at most eight deep: " + depth(name, 0), depth(name, 0) <= 8, true);
        }
    }

    private void readCalls(String className, String text) {
        check.due(className + " has no lambda and joins no texts by +", text.contains("invokedynamic"), false);
        check.due(className + " catches nothing", text.contains("Exception table"), false);
        Pattern called = Pattern.compile("// (?:Interface)?Method (\\S+?):");
        String method = "";
        for (String line : text.split("\n")) {
            if (line.matches("  \\S.*\\(.*\\).*;")) {
                String head = line.substring(0, line.indexOf('('));
                String name = head.substring(head.lastIndexOf(' ') + 1);
                method = className + "." + (name.equals(className) ? "\"<init>\"" : name);
                calls.put(method, new HashSet<>());
            }
            Matcher match = called.matcher(line);
            if (match.find()) {
                String callee = match.group(1).contains(".") ? match.group(1) : className + "." + match.group(1);
                calls.get(method).add(callee);
                check.due(method + " calls " + callee, callee.startsWith("RelayMouse") || LIBRARY.contains(callee), true);
            }
        }
    }

    private int depth(String method, int above) {
        // Far beyond what is allowed: a recursion, of which there is none.
        if (above > 40) {
            return 1;
        }
        int deepest = 0;
        for (String callee : calls.getOrDefault(method, Set.of())) {
            deepest = Math.max(deepest, depth(callee, above + 1));
        }
        return deepest + 1;
    }
}
