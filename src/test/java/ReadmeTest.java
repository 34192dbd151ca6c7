import java.io.File;
import java.io.IOException;
import java.net.URL;
import java.net.URLClassLoader;
import java.nio.file.Files;
import java.nio.file.Path;
import java.util.function.BiConsumer;
import java.util.regex.Matcher;
import java.util.regex.Pattern;
import javax.tools.ToolProvider;

/** README.md's example compiles, and each call in it answers what the page says behind it. */
public final class ReadmeTest {
  private static final Pattern EXAMPLE = Pattern.compile("```java\n(.*?)```", Pattern.DOTALL);
  private static final Pattern ANSWERED = Pattern.compile("(?m)^(yard\\..*\\));\\s*// (-?\\d+)\\b.*$");
  private static final int LEAST_CALLS = 20;

  public static void main(String[] args) throws IOException, ReflectiveOperationException {
    Due due = new Due("ReadmeTest");
    Matcher example = EXAMPLE.matcher(Files.readString(Path.of("README.md")));
    due.holds("there is an example", example.find());
    String code = example.group(1);
    due.holds("it has enough calls", ANSWERED.matcher(code).results().count() >= LEAST_CALLS);
    due.holds("each call tells its answer", code.lines().noneMatch(ReadmeTest::hidesItsAnswer));
    run(due, ANSWERED.matcher(code).replaceAll("due.accept(Long.valueOf($1), $2L);"), code);
    due.end();
  }

  private static boolean hidesItsAnswer(String line) {
    return line.startsWith("yard.") && !ANSWERED.matcher(line).matches();
  }

  private static void run(Due due, String code, String told) throws IOException, ReflectiveOperationException {
    Path folder = Files.createTempDirectory(Files.createDirectories(Path.of("build")), "readme");
    Path file = folder.resolve("ReadmeExample.java");
    Files.writeString(file, "public final class ReadmeExample {\n"
        + "public static void run(java.util.function.BiConsumer<Long, Long> due) {\n" + code + "\n}\n}\n");
    String path = System.getProperty("java.class.path");
    int failed = ToolProvider.getSystemJavaCompiler().run(null, null, null, "-cp", path, "-d", folder.toString(),
        file.toString());
    due.is("compiling README.md's example", failed, 0);
    if (failed == 0) {
      try (URLClassLoader loader = new URLClassLoader(new URL[] {folder.toUri().toURL()})) {
        String[] calls = ANSWERED.matcher(told).results().map(call -> call.group(1)).toArray(String[]::new);
        int[] made = {0};
        BiConsumer<Long, Long> asked = (got, want) -> due.is(calls[made[0]++], got, want);
        loader.loadClass("ReadmeExample").getMethod("run", BiConsumer.class).invoke(null, asked);
        due.is("calls made", made[0], calls.length);
      }
    }
    for (File left : folder.toFile().listFiles()) {
      left.delete();
    }
    Files.delete(folder);
  }
}
