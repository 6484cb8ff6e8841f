import java.io.File;
import java.io.IOException;
import java.nio.file.Files;
import java.nio.file.Path;
import java.util.ArrayList;
import java.util.List;
import java.util.regex.Matcher;
import java.util.regex.Pattern;
import javax.tools.ToolProvider;

/** The example of README.md answers what stands behind its arrows, and its commands do what their rows say. */
public final class ReadmeTests {
    private static final Pattern VARIABLE = Pattern.compile("int (\\w+) = .*;");
    private static final Pattern COMMAND = Pattern.compile("\\| `([srwhlem][^`]*)` \\| `(.*)` \\|");
    private static final String ARROW = "-> ";
    private static final String THROWS = "throws ";
    private static final int ANSWERS = 21;
    private static final int COMMANDS = 7;

    private ReadmeTests() {
    }

    public static void main(String[] args) throws IOException, InterruptedException {
        List<String> lines = Files.readAllLines(Path.of("README.md"));
        List<String> source = new ArrayList<>();
        source.add("public final class ReadmeRun {");
        addMethod(source, "example", exampleOf(lines));
        addMethod(source, "commands", commandsOf(lines));
        source.add("public static void main(String[] args) {");
        source.add("Checks.group(\"example\", ReadmeRun::example);");
        source.add("Checks.group(\"commands\", ReadmeRun::commands);");
        source.add("Checks.end(); } }");
        System.exit(run(source));
    }

    private static void addMethod(List<String> source, String name, List<String> body) {
        source.add("private static void " + name + "() {");
        source.addAll(body);
        source.add("}");
    }

    private static List<String> exampleOf(List<String> lines) {
        int first = lines.indexOf("```java") + 1;
        int end = first + lines.subList(first, lines.size()).indexOf("```");
        List<String> body = new ArrayList<>();
        int answers = 0;
        for (String line : lines.subList(first, end)) {
            String[] parts = line.split("// ", 2);
            if (parts.length < 2) {
                body.add(line);
            } else {
                addAnswer(body, parts[0].trim(), parts[1]);
                answers++;
            }
        }
        body.add("Checks.is(" + ANSWERS + ", " + answers + ");");
        return body;
    }

    private static void addAnswer(List<String> body, String code, String told) {
        String call = code.replace(";", "");
        if (told.startsWith(THROWS)) {
            body.add("Checks.fails(" + told.substring(THROWS.length()) + ".class, () -> " + call + ");");
            return;
        }
        String due = told.startsWith(ARROW) ? told.substring(ARROW.length()).split(",")[0] : "an arrow";
        Matcher variable = VARIABLE.matcher(code);
        String asked = call;
        if (variable.matches()) {
            body.add(code);
            asked = variable.group(1);
        }
        body.add("Checks.same(\"" + due + "\", String.valueOf(" + asked + "), \"" + asked + "\");");
    }

    private static List<String> commandsOf(List<String> lines) {
        List<String> body = new ArrayList<>();
        int commands = 0;
        for (String line : lines) {
            Matcher row = COMMAND.matcher(line);
            if (row.matches()) {
                String text = "\"" + row.group(1) + "\"";
                body.add("{ TheatreSeasons typed = Fixtures.withSeats(), called = Fixtures.withSeats();");
                body.add("Fixtures.read(typed, " + text + "); called." + row.group(2) + ";");
                body.add("Checks.same(Fixtures.told(called), Fixtures.told(typed), " + text + "); }");
                commands++;
            }
        }
        body.add("Checks.is(" + COMMANDS + ", " + commands + ");");
        return body;
    }

    // A machine of its own, since a class that is loaded later can't see what the tests share.
    private static int run(List<String> source) throws IOException, InterruptedException {
        Path place = Files.createDirectories(Path.of("build", "readme"));
        Path file = Files.write(place.resolve("ReadmeRun.java"), source);
        String known = System.getProperty("java.class.path");
        int compiled = ToolProvider.getSystemJavaCompiler().run(null, null, null,
                "-encoding", "UTF-8", "-cp", known, "-d", place.toString(), file.toString());
        if (compiled != 0) {
            return 1;
        }
        String machine = Path.of(System.getProperty("java.home"), "bin", "java").toString();
        String path = known + File.pathSeparator + place;
        return new ProcessBuilder(machine, "-cp", path, "ReadmeRun").inheritIO().start().waitFor();
    }
}
