import java.io.ByteArrayOutputStream;
import java.io.File;
import java.io.IOException;
import java.io.InputStream;
import java.lang.reflect.Field;
import java.lang.reflect.Method;
import java.lang.reflect.Modifier;
import java.nio.file.Files;
import java.nio.file.Path;
import java.util.List;
import java.util.regex.Matcher;
import java.util.regex.Pattern;
import javax.tools.ToolProvider;

/** README.md: its example prints what it says, and every constant, method and test is told. */
public final class ReadmeTest {
    private static final Check CHECK = new Check("ReadmeTest");

    public static void main(String[] args) throws IOException, InterruptedException {
        String readme = Files.readString(Path.of("README.md"));
        exampleIsTrue(readme);
        everyConstantIsTold(readme);
        everyMethodIsTold(readme);
        everyTestIsTold(readme);
        CHECK.yes("the command of the tests", block(readme, "sh", 1).equals(".ci/run\n"));
        CHECK.end();
    }

    /** The text of a block with that name, counted from 0; empty when there is none. */
    private static String block(String readme, String name, int place) {
        Matcher matcher = Pattern.compile("(?s)```" + name + "\n(.*?)```").matcher(readme);
        for (int i = 0; matcher.find(); i++) {
            if (i == place) {
                return matcher.group(1);
            }
        }
        return "";
    }

    private static void exampleIsTrue(String readme) throws IOException, InterruptedException {
        Path out = Files.createTempDirectory("readme");
        Path example = Files.writeString(out.resolve("Example.java"), block(readme, "java", 0));
        int compiled = ToolProvider.getSystemJavaCompiler().run(null, null, null, "--release", "17", "-d",
                out.toString(), "src/main/java/LeasedPages.java", example.toString());
        CHECK.due("the compiler's exit code", compiled, 0);
        String printed = output(List.of("java", "-cp", out.toString(), "Example"));
        CHECK.yes("the example prints\n" + printed, printed.equals(block(readme, "text", 0)) && !printed.isEmpty());
        deleteAll(out.toFile());
    }

    private static String output(List<String> command) throws IOException, InterruptedException {
        Process process = new ProcessBuilder(command).redirectErrorStream(true).start();
        ByteArrayOutputStream printed = new ByteArrayOutputStream();
        try (InputStream from = process.getInputStream()) {
            from.transferTo(printed);
        }
        process.waitFor();
        return printed.toString().replace(System.lineSeparator(), "\n");
    }

    private static void deleteAll(File file) {
        File[] inside = file.listFiles();
        if (inside != null) {
            for (File one : inside) {
                deleteAll(one);
            }
        }
        CHECK.yes("deleted " + file, file.delete());
    }

    private static void everyConstantIsTold(String readme) {
        for (Field field : LeasedPages.class.getFields()) {
            try {
                String row = "| `" + field.getName() + "` | " + field.getInt(null) + " | ";
                CHECK.yes("told: " + row, readme.contains(row));
            } catch (IllegalAccessException e) {
                CHECK.yes(field + " can be read", false);
            }
        }
    }

    private static void everyMethodIsTold(String readme) {
        for (Method method : LeasedPages.class.getDeclaredMethods()) {
            if (Modifier.isPublic(method.getModifiers())) {
                String call = "`" + method.getName() + "\\((\\w+(, \\w+){" + (method.getParameterCount() - 1) + "})\\)`";
                String told = method.getParameterCount() == 0 ? "`" + method.getName() + "\\(\\)`" : call;
                CHECK.yes("told: " + told, Pattern.compile("(?m)^\\|.*" + told + ".*\\|$").matcher(readme).find());
            }
        }
    }

    private static void everyTestIsTold(String readme) {
        for (String name : List.of(new File("src/test/java").list())) {
            if (name.endsWith("Test.java")) {
                CHECK.yes("told: " + name, readme.contains("`" + name.replace(".java", "") + "`"));
            }
        }
    }
}
