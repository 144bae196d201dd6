import java.lang.reflect.Method;
import java.lang.reflect.Modifier;
import java.net.URL;
import java.net.URLClassLoader;
import java.nio.file.Files;
import java.nio.file.Path;
import java.util.ArrayList;
import java.util.List;
import java.util.regex.Matcher;
import java.util.regex.Pattern;
import java.util.stream.Stream;
import javax.tools.JavaCompiler;
import javax.tools.ToolProvider;

/** README.md: its example compiles, each call of it answers as it says, and its table has all tests. */
public final class ReadmeTest {
  /** A call, and behind it what it answers: a number or a constant's name, and perhaps words. */
  private static final Pattern CALL =
      Pattern.compile(" {8}((?:x\\.\\w+|say)\\(.*\\)); +// (-?\\d+|NONE|BAD|ROOM)(?:: .+)?");
  private static final String CLASS_LINE = "public final class Example {";
  private static final String MAIN_LINE = "    public static void main(String[] args) {";

  public static void main(String[] args) throws Exception {
    Check c = new Check();
    String readme = Files.readString(Path.of("README.md"));
    List<String> example = example(c, readme);
    List<String> calls = calls(c, example);
    usesEveryCall(c, calls);
    c.holds("the example compiles as it stands", compiled(example) != null);
    answers(c, example, calls);
    tests(c, readme);
    c.end();
  }

  private static List<String> example(Check c, String readme) {
    Matcher m = Pattern.compile("(?ms)^```java\n(.*?)^```$").matcher(readme);
    List<String> lines = new ArrayList<>();
    int n = 0;
    while (m.find()) {
      n++;
      m.group(1).lines().forEach(lines::add);
    }
    c.due("examples in README.md", n, 1);
    return lines;
  }

  /** The lines of main that are calls; all others there are empty, comments, or make the object. */
  private static List<String> calls(Check c, List<String> example) {
    List<String> calls = new ArrayList<>();
    int first = example.indexOf(MAIN_LINE);
    int end = example.indexOf("    }");
    c.holds("the example has a main method", first >= 0 && end > first);
    for (int i = first + 1; i < end; i++) {
      String line = example.get(i);
      if (CALL.matcher(line).matches()) {
        calls.add(line);
      } else {
        c.holds("a call with its answer, or none: " + line,
            line.isBlank() || line.startsWith("        // ") || line.equals("        AlarmGroups x = new AlarmGroups();"));
      }
    }
    return calls;
  }

  private static void usesEveryCall(Check c, List<String> calls) {
    for (Method m : AlarmGroups.class.getDeclaredMethods()) {
      if (Modifier.isPublic(m.getModifiers())) {
        c.holds("the example uses " + m.getName(), calls.stream().anyMatch(call -> call.contains("x." + m.getName() + "(")));
      }
    }
  }

  /** Where the classes of the example are; null, if it does not compile. */
  private static Path compiled(List<String> example) throws Exception {
    JavaCompiler javac = ToolProvider.getSystemJavaCompiler();
    if (javac == null) {
      System.out.println("there is no compiler in this java");
      return null;
    }
    Path folder = Files.createTempDirectory("readme");
    folder.toFile().deleteOnExit();
    Path source = folder.resolve("Example.java");
    Files.write(source, example);
    int code = javac.run(null, null, null, "-cp", System.getProperty("java.class.path"), "-d", folder.toString(), source.toString());
    try (Stream<Path> files = Files.list(folder)) {
      files.forEach(file -> file.toFile().deleteOnExit());
    }
    return code == 0 ? folder : null;
  }

  /** Runs the example with each call's answer kept. */
  private static void answers(Check c, List<String> example, List<String> calls) throws Exception {
    List<String> keeping = new ArrayList<>();
    for (String line : example) {
      Matcher m = CALL.matcher(line);
      keeping.add(m.matches() ? "answers.add((long) " + m.group(1) + ");" : line);
      if (line.equals(CLASS_LINE)) {
        keeping.add("public static final java.util.List<Long> answers = new java.util.ArrayList<>();");
      }
    }
    Path folder = compiled(keeping);
    c.holds("the example compiles with its answers kept", folder != null);
    if (folder == null) {
      return;
    }
    List<Long> got = new ArrayList<>();
    try (URLClassLoader loader = new URLClassLoader(new URL[] {folder.toUri().toURL()}, ReadmeTest.class.getClassLoader())) {
      Class<?> made = loader.loadClass("Example");
      made.getMethod("main", String[].class).invoke(null, (Object) new String[0]);
      for (Object answer : (List<?>) made.getField("answers").get(null)) {
        got.add((Long) answer);
      }
    }
    c.due("answers of the example", got.size(), calls.size());
    for (int i = 0; i < Math.min(got.size(), calls.size()); i++) {
      Matcher m = CALL.matcher(calls.get(i));
      c.holds("a call", m.matches());
      c.due("README.md, call " + i + ", " + m.group(1), got.get(i), number(m.group(2)));
    }
  }

  private static long number(String answer) {
    switch (answer) {
      case "NONE": return AlarmGroups.NONE;
      case "BAD": return AlarmGroups.BAD;
      case "ROOM": return AlarmGroups.ROOM;
      default: return Long.parseLong(answer);
    }
  }

  private static void tests(Check c, String readme) throws Exception {
    String table = readme.substring(readme.indexOf("## How to run its tests"));
    try (Stream<Path> files = Files.list(Path.of("src/test/java"))) {
      for (Path file : files.toList()) {
        String name = file.getFileName().toString().replace(".java", "");
        c.holds("README.md tells of " + name, Pattern.compile("\\b" + name + "\\b").matcher(table).find());
      }
    }
    Matcher m = Pattern.compile("\\b[A-Z]\\w*Test\\b").matcher(table);
    while (m.find()) {
      c.holds("there is the test that README.md tells of: " + m.group(), Files.exists(Path.of("src/test/java", m.group() + ".java")));
    }
  }
}
