import java.io.IOException;
import java.nio.file.Files;
import java.nio.file.Path;
import java.util.regex.Matcher;
import java.util.regex.Pattern;

/** Makes a program of the Java in README.md, which fails where an answer told there does not hold. */
public final class ReadmeExample {
    private static final Pattern BLOCK = Pattern.compile("(?m)^```java\n(.*?)^```$", Pattern.DOTALL);
    private static final Pattern CALL = Pattern.compile("(land\\..*);\\s*// (-?\\d+|true|false)( \\(.*\\))?");
    private static final int LEAST_CALLS = 20;

    private ReadmeExample() {
    }

    /** Its arguments: the path of README.md, that of the program to be made, Example.java. */
    public static void main(String[] arguments) throws IOException {
        Files.writeString(Path.of(arguments[1]), program(Files.readString(Path.of(arguments[0]))));
    }

    private static String program(String readme) {
        StringBuilder helpers = new StringBuilder();
        StringBuilder calls = new StringBuilder();
        int many = 0;
        Matcher block = BLOCK.matcher(readme);
        while (block.find()) {
            if (block.group(1).startsWith("/**")) {
                helpers.append(block.group(1));
                continue;
            }
            for (String line : block.group(1).split("\n")) {
                many += line.startsWith("land.") ? 1 : 0;
                calls.append(line.startsWith("land.") ? checked(line) : line).append('\n');
            }
        }
        if (many < LEAST_CALLS) {
            throw new IllegalStateException("README.md has an example of " + many + " calls alone");
        }
        return "public class Example {\n" + helpers + "static int wrong = 0;\n"
                + "static void due(String call, Object got, String want) {\n"
                + "if (!String.valueOf(got).equals(want)) {\nwrong++;\n"
                + "System.out.println(call + \" answers \" + got + \", README.md tells \" + want);\n}\n}\n"
                + "public static void main(String[] arguments) {\n" + calls
                + "System.out.println(wrong + \" of " + many + " answers do not hold\");\n"
                + "System.exit(wrong == 0 ? 0 : 1);\n}\n}\n";
    }

    private static String checked(String line) {
        Matcher call = CALL.matcher(line);
        if (!call.matches()) {
            throw new IllegalStateException("a call without an answer: " + line);
        }
        String name = call.group(1).replace("\\", "\\\\").replace("\"", "\\\"");
        return "due(\"" + name + "\", " + call.group(1) + ", \"" + call.group(2) + "\");";
    }
}
