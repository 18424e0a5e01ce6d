import java.io.IOException;
import java.net.URL;
import java.net.URLClassLoader;
import java.nio.file.Files;
import java.nio.file.Path;
import java.util.ArrayList;
import java.util.List;
import java.util.regex.Matcher;
import java.util.regex.Pattern;
import javax.tools.ToolProvider;

/** The lines of Java in README.md answer what it says behind them. */
public final class ReadmeTest {
    private static final Checks checks = new Checks();
    private static final String CLASS = "ReadmeLines";
    private static final Pattern ANSWERED = Pattern.compile("(?:int (\\w+) = )?(.*); *// (-?\\d+).*");

    public static void main(String[] args) throws IOException, ReflectiveOperationException {
        List<String> blocks = blocks(Files.readString(Path.of("README.md")));
        checks.due("blocks of Java", blocks.size(), 2);
        List<String> calls = new ArrayList<>();
        List<Integer> wanted = new ArrayList<>();
        String source = source(blocks.get(0), blocks.get(1), calls, wanted);
        int[] answers = run(source);
        checks.due("answers", answers.length, wanted.size());
        checks.holds("there are some", answers.length > 0);
        for (int i = 0; i < answers.length; i++) {
            checks.due(calls.get(i), answers[i], wanted.get(i));
        }
        checks.close("ReadmeTest");
    }

    private static List<String> blocks(String text) {
        List<String> blocks = new ArrayList<>();
        Matcher block = Pattern.compile("```java\\n(.*?)```", Pattern.DOTALL).matcher(text);
        while (block.find()) {
            blocks.add(block.group(1));
        }
        return blocks;
    }

    /** A class that has the first block, and answers with what the calls of the second answer. */
    private static String source(String methods, String lines, List<String> calls, List<Integer> wanted) {
        StringBuilder body = new StringBuilder();
        StringBuilder row = new StringBuilder();
        for (String line : lines.split("\n")) {
            Matcher answered = ANSWERED.matcher(line);
            if (answered.matches()) {
                String name = answered.group(1) != null ? answered.group(1) : "answer" + calls.size();
                body.append("int ").append(name).append(" = ").append(answered.group(2)).append(";\n");
                row.append(name).append(", ");
                calls.add(answered.group(2));
                wanted.add(Integer.parseInt(answered.group(3)));
            } else {
                body.append(line).append("\n");
            }
        }
        return "public final class " + CLASS + " {\n" + methods + "public static int[] answers() {\n" + body
            + "return new int[] {" + row + "};\n}\n}\n";
    }

    private static int[] run(String source) throws IOException, ReflectiveOperationException {
        Path directory = Files.createTempDirectory("readme");
        Path file = directory.resolve(CLASS + ".java");
        try {
            Files.writeString(file, source);
            int code = ToolProvider.getSystemJavaCompiler().run(null, null, null, "-d", directory.toString(), "-cp",
                System.getProperty("java.class.path"), file.toString());
            checks.due("javac on the lines of README.md", code, 0);
            if (code != 0) {
                return new int[0];
            }
            try (URLClassLoader loader = new URLClassLoader(new URL[] {directory.toUri().toURL()})) {
                return (int[]) loader.loadClass(CLASS).getMethod("answers").invoke(null);
            }
        } finally {
            Files.deleteIfExists(directory.resolve(CLASS + ".class"));
            Files.deleteIfExists(file);
            Files.delete(directory);
        }
    }
}
