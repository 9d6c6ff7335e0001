import java.io.File;
import java.lang.reflect.Method;
import java.lang.reflect.Modifier;
import java.nio.charset.StandardCharsets;
import java.nio.file.Files;
import java.nio.file.Path;
import java.util.ArrayList;
import java.util.List;
import java.util.regex.Matcher;
import java.util.regex.Pattern;
import javax.tools.JavaCompiler;
import javax.tools.ToolProvider;

/** The code that README.md shows is compiled and run: each call answers what stands behind it there. */
public final class ReadmeTest {
    private static final String NAME = "ReadmeCode";
    private static final Pattern ANSWERED = Pattern.compile(
        "(x\\..*);\\s*// (?:(-?\\d+|true|false)|throws (\\w+))(?:: .*)?");

    private final Check check = new Check("ReadmeTest");
    private final StringBuilder code = new StringBuilder();
    private final StringBuilder shown = new StringBuilder();
    private int examples;

    public static void main(String[] args) throws Exception {
        ReadmeTest test = new ReadmeTest();
        test.write(blocks(Files.readAllLines(Path.of("README.md"), StandardCharsets.UTF_8)));
        test.run();
        test.everyCallIsShown();
        test.check.end();
    }

    private static List<List<String>> blocks(List<String> page) {
        List<List<String>> blocks = new ArrayList<>();
        boolean inside = false;
        for (String line : page) {
            if (inside && line.equals("```")) {
                inside = false;
            } else if (inside) {
                blocks.get(blocks.size() - 1).add(line);
            } else if (line.equals("```java")) {
                inside = true;
                blocks.add(new ArrayList<>());
            }
        }
        return blocks;
    }

    /** Blocks that make an object are examples; the other ones are methods that these use. */
    private void write(List<List<String>> blocks) {
        code.append("final class ").append(NAME).append(" {\n");
        for (List<String> block : blocks) {
            if (block.get(0).equals("RelayMouse x = new RelayMouse();")) {
                writeExample(block);
            } else {
                code.append(String.join("\n", block)).append('\n');
            }
        }
        code.append("static void all(Check check) {\n");
        for (int i = 0; i < examples; i++) {
            code.append("example").append(i).append("(check);\n");
        }
        code.append("}\n}\n");
    }

    private void writeExample(List<String> block) {
        code.append("static void example").append(examples).append("(Check check) {\n").append(block.get(0)).append('\n');
        examples++;
        for (String line : block.subList(1, block.size())) {
            Matcher answered = ANSWERED.matcher(line);
            boolean told = answered.matches();
            check.due("README.md tells what this answers: " + line, told, true);
            if (told) {
                shown.append(line).append('\n');
                writeCall(answered.group(1), answered.group(2), answered.group(3));
            }
        }
        code.append("}\n");
    }

    private void writeCall(String call, String answer, String exception) {
        String name = '"' + call.replace("\"", "\\\"") + '"';
        if (answer != null) {
            code.append("check.due(").append(name).append(", ").append(call).append(", ").append(answer).append(");\n");
            return;
        }
        code.append("{ String thrown = \"nothing\";\ntry { ").append(call)
            .append("; } catch (RuntimeException e) { thrown = e.getClass().getSimpleName(); }\n")
            .append("check.due(").append(name).append(" + \" throws \" + thrown, thrown.equals(\"").append(exception)
            .append("\"), true); }\n");
    }

    private void run() throws Exception {
        // Beside the other classes, since Check is seen from its own package alone.
        File place = new File(Check.class.getProtectionDomain().getCodeSource().getLocation().toURI());
        Path source = place.toPath().resolve(NAME + ".java");
        Files.writeString(source, code.toString());
        JavaCompiler compiler = ToolProvider.getSystemJavaCompiler();
        int failed = compiler.run(null, null, null, "-cp", place.getPath(), "-d", place.getPath(), source.toString());
        check.due("the code of README.md compiles", failed, 0);
        if (failed == 0) {
            Method all = Class.forName(NAME).getDeclaredMethod("all", Check.class);
            all.setAccessible(true);
            all.invoke(null, check);
        }
    }

    private void everyCallIsShown() {
        for (Method method : RelayMouse.class.getDeclaredMethods()) {
            if (Modifier.isPublic(method.getModifiers())) {
                check.due("README.md shows " + method.getName(), shown.indexOf("x." + method.getName() + "(") >= 0, true);
            }
        }
    }
}
