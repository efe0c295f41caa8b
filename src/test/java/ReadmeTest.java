import java.lang.reflect.Method;
import java.lang.reflect.Modifier;
import java.net.URL;
import java.net.URLClassLoader;
import java.nio.file.Files;
import java.nio.file.Path;
import java.util.ArrayList;
import java.util.Comparator;
import java.util.List;
import java.util.regex.Matcher;
import java.util.regex.Pattern;
import java.util.stream.Stream;

/** README.md as it stands: its run of calls is compiled and made, its commands are called. Run from the project's folder. */
public final class ReadmeTest {
  private static final Pattern CALL = Pattern.compile("(hall\\.(\\w+)\\(.*\\));\\s+// (-?\\d+)(:.*)?");
  private static final String ALL_TESTS = ".ci/run";
  private static int passed = 0, failed = 0;

  private static void holds(String what, boolean so) {
    if (so) passed++;
    else { failed++; System.out.println("README.md: " + what); }
  }

  public static void main(String[] args) throws Exception {
    List<String> lines = Files.readAllLines(Path.of("README.md"));
    calls(blocks(lines, "java"));
    commands(blocks(lines, "sh"));
    tests(String.join("\n", lines));
    System.out.println("readme: " + passed + " passed, " + failed + " failed");
    if (failed > 0) System.exit(1);
  }

  private static List<String> blocks(List<String> lines, String kind) {
    List<String> inside = new ArrayList<>();
    boolean open = false;
    for (String line : lines) {
      if (line.startsWith("```")) open = line.equals("```" + kind);
      else if (open) inside.add(line);
    }
    return inside;
  }

  /** Called by the run that is made of README.md. */
  public static void due(String call, long got, long want) {
    holds(call + " answers " + got + ", README.md says " + want, got == want);
  }

  private static void calls(List<String> lines) throws Exception {
    StringBuilder body = new StringBuilder();
    String named = " ";
    for (String line : lines) {
      Matcher call = CALL.matcher(line);
      if (call.matches()) {
        body.append("due(\"" + call.group(1) + "\", " + call.group(1) + ", " + call.group(3) + "L);\n");
        named += call.group(2) + " ";
      } else {
        holds("a line is a call with its answer, or makes the object: " + line, line.startsWith("ForecastHall hall = new ForecastHall();"));
        body.append(line).append('\n');
      }
    }
    for (Method m : ForecastHall.class.getDeclaredMethods()) {
      if (Modifier.isPublic(m.getModifiers())) holds(m.getName() + " is shown", named.contains(" " + m.getName() + " "));
    }
    run(body.toString());
  }

  private static void run(String body) throws Exception {
    Path folder = Files.createTempDirectory("readme");
    Path source = folder.resolve("ReadmeRun.java");
    Files.writeString(source, "public final class ReadmeRun {\npublic static void main(String[] args) {\n" + body + "}\n"
      + "private static void due(String call, long got, long want) { ReadmeTest.due(call, got, want); }\n}\n");
    int rc = call(folder, "javac", "-cp", Path.of(System.getProperty("java.class.path")).toAbsolutePath().toString(), "-d", ".", "ReadmeRun.java");
    holds("its calls compile", rc == 0);
    if (rc == 0) {
      try (URLClassLoader loader = new URLClassLoader(new URL[] {folder.toUri().toURL()})) {
        loader.loadClass("ReadmeRun").getMethod("main", String[].class).invoke(null, (Object) new String[0]);
      }
    }
    clear(folder);
  }

  /** All but the one that runs this test; on a copy of the sources, so that they leave nothing behind. */
  private static void commands(List<String> lines) throws Exception {
    holds("it tells how all tests are run", lines.contains(ALL_TESTS) && Files.isExecutable(Path.of(ALL_TESTS)));
    Path folder = Files.createTempDirectory("readme");
    try (Stream<Path> all = Files.walk(Path.of("src"))) {
      for (Path p : all.toList()) Files.copy(p, folder.resolve(p.toString()));
    }
    for (String line : lines) {
      if (line.equals(ALL_TESTS)) continue;
      int rc = call(folder, "bash", "-c", line);
      holds(line + " ends with " + rc, rc == 0);
    }
    clear(folder);
  }

  private static int call(Path folder, String... words) throws Exception {
    return new ProcessBuilder(words).directory(folder.toFile()).inheritIO().redirectOutput(ProcessBuilder.Redirect.DISCARD).start().waitFor();
  }

  private static void clear(Path folder) throws Exception {
    try (Stream<Path> all = Files.walk(folder)) {
      for (Path p : all.sorted(Comparator.reverseOrder()).toList()) Files.delete(p);
    }
  }

  private static void tests(String text) throws Exception {
    try (Stream<Path> all = Files.list(Path.of("src/test/java"))) {
      for (Path p : all.toList()) {
        String name = p.getFileName().toString().replace(".java", "");
        holds(name + " is told", text.contains("`" + name + "`"));
        if (name.endsWith("Test")) holds(name + " is run by " + ALL_TESTS, Files.readString(Path.of(ALL_TESTS)).contains("run_test " + name + " "));
      }
    }
  }
}
