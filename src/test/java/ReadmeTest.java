import java.io.File;
import java.io.IOException;
import java.lang.reflect.Method;
import java.lang.reflect.Modifier;
import java.nio.file.Files;
import java.nio.file.Path;
import java.util.List;
import java.util.regex.Matcher;
import java.util.regex.Pattern;
import javax.tools.ToolProvider;

/** README.md: each call that it shows is compiled and asked, in one run, and gives the answer that is told behind it. */
public final class ReadmeTest {
    private static final Pattern ANSWERED = Pattern.compile("(?:int (\\w+) = )?(hall\\.\\w+\\(.*\\)); +// ([\\w-]+)(?:(?: (\\w+))?:.*)?");

    private static final Pattern NUMBERS = Pattern.compile("\\d+(?: \\d+)+(?: / \\d+(?: \\d+)+)+");
    private static final Pattern ASKED = Pattern.compile("hall\\.(\\w+)\\((\\w*).*");

    private final StringBuilder source = new StringBuilder();

    public static void main(String[] args) throws IOException, InterruptedException {
        List<String> lines = Files.readAllLines(Path.of("README.md"));
        ReadmeTest test = new ReadmeTest();
        test.translate(lines);
        test.run();
        eachMethodIsShown(String.join("\n", lines));
        Check.end("ReadmeTest");
    }

    private void translate(List<String> lines) {
        source.append("public final class ReadmeCalls { public static void main(String[] args) {\n");
        boolean isCode = false;
        for (int number = 0; number < lines.size(); number++) {
            String line = lines.get(number);
            if (line.startsWith("```")) {
                isCode = line.equals("```java");
            } else if (isCode) {
                String where = "README.md, line " + (number + 1);
                source.append(translated(line, where)).append(pointsOf(line, where)).append("\n");
            }
        }
        source.append("Check.end(\"the calls that README.md shows\"); } }\n");
    }

    private String translated(String line, String where) {
        Matcher call = ANSWERED.matcher(line);
        if (!call.matches()) {
            Check.holds(where + " tells no answer: " + line, line.equals("LoshuHall hall = new LoshuHall();"));
            return line;
        }
        String answer = call.group(3);
        String what = "\"" + where + "\"";
        if (answer.equals("throws")) {
            return "Check.fails(" + what + ", \"" + call.group(4) + "\", () -> " + call.group(2) + ");";
        }
        if (answer.equals("true") || answer.equals("false")) {
            return "Check.holds(" + what + ", " + answer + " == " + call.group(2) + ");";
        }
        if (call.group(1) == null) {
            return "Check.due(" + what + ", " + answer + ", " + call.group(2) + ");";
        }
        return "int " + call.group(1) + " = " + call.group(2) + "; Check.due(" + what + ", " + answer + ", " + call.group(1) + ");";
    }

    /** "8 1 6 / 3 5 7 / 4 9 2" tells all points, row by row: of a LEAST FORM, of the first COMPLETION, or of a square. */
    private static String pointsOf(String line, String where) {
        Matcher call = ANSWERED.matcher(line);
        Matcher numbers = NUMBERS.matcher(line);
        if (!call.matches() || !numbers.find()) {
            return "";
        }
        Matcher asked = ASKED.matcher(call.group(2));
        Check.holds(where + " asks a method", asked.matches());
        String method = asked.group(1);
        String square = call.group(1) == null ? asked.group(2) : call.group(1);
        String reading = method.equals("least") ? "hall.least(" + square
            : method.equals("completion") ? "hall.completion(" + square + ", 0" : "hall.at(" + square;
        StringBuilder points = new StringBuilder();
        String[] rows = numbers.group().split(" / ");
        for (int row = 0; row < rows.length; row++) {
            String[] told = rows[row].split(" ");
            for (int column = 0; column < told.length; column++) {
                points.append(" Check.due(\"" + where + ", the point " + row + ", " + column + "\", " + told[column] + ", "
                    + reading + ", " + row + ", " + column + "));");
            }
        }
        return points.toString();
    }

    private void run() throws IOException, InterruptedException {
        Path folder = Files.createTempDirectory("readme");
        Path file = folder.resolve("ReadmeCalls.java");
        Files.writeString(file, source);
        String classPath = System.getProperty("java.class.path");
        int compiled = ToolProvider.getSystemJavaCompiler()
            .run(null, null, null, "-cp", classPath, "-d", folder.toString(), file.toString());
        Check.due("the calls that README.md shows are compiled", 0, compiled);
        if (compiled == 0) {
            ask(classPath + File.pathSeparator + folder);
        }
        Files.deleteIfExists(folder.resolve("ReadmeCalls.class"));
        Files.delete(file);
        Files.delete(folder);
    }

    /** In a machine of its own, since the calls of a test are those of one main method. */
    private static void ask(String classPath) throws IOException, InterruptedException {
        String java = Path.of(System.getProperty("java.home"), "bin", "java").toString();
        int ended = new ProcessBuilder(java, "-cp", classPath, "ReadmeCalls").inheritIO().start().waitFor();
        Check.due("the calls that README.md shows end well", 0, ended);
    }

    private static void eachMethodIsShown(String readme) {
        for (Method method : LoshuHall.class.getDeclaredMethods()) {
            if (Modifier.isPublic(method.getModifiers())) {
                Check.holds("README.md shows " + method.getName(), readme.contains("hall." + method.getName() + "("));
            }
        }
    }
}
