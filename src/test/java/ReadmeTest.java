import java.io.IOException;
import java.lang.reflect.Method;
import java.lang.reflect.Modifier;
import java.nio.file.DirectoryStream;
import java.nio.file.Files;
import java.nio.file.Path;
import java.util.Arrays;
import java.util.regex.Matcher;
import java.util.regex.Pattern;

/** README.md says how to use the class: its examples answer what they say, and no call and no test is left out. */
public final class ReadmeTest {
    private static final Pattern CALL = Pattern.compile("x\\.(\\w+)\\(([^)]*)\\);\\s*// (-?\\d+)(.*)");
    private static final Pattern BECOMES = Pattern.compile("register (\\d+) becomes ([0-3]+)\\b");
    private static final Check check = new Check("ReadmeTest");

    public static void main(String[] args) throws IOException {
        String text = Files.readString(Path.of("README.md"));
        examples(text);
        for (Method method : LostLetters.class.getDeclaredMethods()) {
            if (Modifier.isPublic(method.getModifiers())) {
                told(text, "x." + method.getName() + "(");
            }
        }
        try (DirectoryStream<Path> tests = Files.newDirectoryStream(Path.of("src", "test", "java"), "*Test.java")) {
            for (Path test : tests) {
                told(text, "| `" + test.getFileName().toString().replace(".java", "") + "` |");
            }
        }
        check.end();
    }

    private static void told(String text, String what) {
        check.due("README.md tells " + what, text.contains(what) ? 1 : 0, 1);
    }

    private static void examples(String text) {
        LostLetters x = null;
        for (String line : text.split("\n")) {
            if (line.startsWith("LostLetters x = new LostLetters();")) {
                x = new LostLetters();
            } else if (line.startsWith("x.")) {
                example(x, line);
            }
        }
    }

    private static void example(LostLetters x, String line) {
        Matcher call = CALL.matcher(line);
        if (!call.matches()) {
            check.due("an example that tells its answer", line, "x.call(numbers);  // answer");
            return;
        }
        long[] numbers = Arrays.stream(call.group(2).split(", ")).filter(n -> !n.isEmpty())
                .mapToLong(Long::parseLong).toArray();
        check.due(line, new Call(call.group(1), numbers).on(x), Long.parseLong(call.group(3)));
        Matcher becomes = BECOMES.matcher(call.group(4));
        if (becomes.find()) {
            check.due(line, Check.read(x, Integer.parseInt(becomes.group(1))), becomes.group(2));
        }
    }
}
