import java.nio.file.Files;
import java.nio.file.Path;
import java.util.regex.Matcher;
import java.util.regex.Pattern;

/** What of ../shared/LANGUAGE.md can be seen in the text of the program. */
public final class LanguageTest {
  public static void main(String[] args) throws Exception {
    Check c = new Check();
    String source = Files.readString(Path.of("src/main/java/AlarmGroups.java"));
    String code = bare(source);
    words(c, code);
    imports(c, code);
    statics(c, code);
    methods(c, code);
    int classes = found("\\b(class|interface|enum|record) [A-Z]", code);
    c.holds("at most twelve classes: " + classes, classes <= 12);
    c.end();
  }

  /** Without comments, and with empty texts. */
  private static String bare(String source) {
    return source.replaceAll("(?s)/\\*.*?\\*/", " ").replaceAll("//[^\n]*", " ")
        .replaceAll("\"(\\\\.|[^\"\\\\])*\"", "\"\"").replaceAll("'(\\\\.|[^'\\\\])'", "'x'");
  }

  private static int found(String form, String code) {
    Matcher m = Pattern.compile(form).matcher(code);
    int n = 0;
    while (m.find()) n++;
    return n;
  }

  private static void words(Check c, String code) {
    String[] never = {"throw", "throws", "try", "catch", "finally", "synchronized", "assert", "package", "volatile", "native",
        "protected", "Object", "Thread", "System", "Random", "hashCode", "toString", "equals", "var", "yield", "new int\\[\\]"};
    for (String word : never) {
      c.due("times " + word, found("\\b" + word + "\\b", code), 0);
    }
    c.due("lambdas", found("->", code), 0);
    c.due("method references", found("::", code), 0);
    c.due("Exact", found("Exact\\b", code), 0);
    c.due("texts joined by +", found("\"\" *\\+|\\+ *\"\"", code), 0);
    c.due("static blocks", found("\\bstatic *\\{", code), 0);
  }

  private static void imports(Check c, String code) {
    Matcher m = Pattern.compile("import ([^;]*);").matcher(code);
    while (m.find()) {
      c.holds("import " + m.group(1), m.group(1).matches("java\\.util\\.(Arrays|ArrayList|List|Iterator)"));
    }
    c.due("other names of packages", found("\\bjavax?\\.(?!util\\.(Arrays|ArrayList|List|Iterator);)", code), 0);
  }

  private static void statics(Check c, String code) {
    // a static thing is a method, a class or a final constant
    c.due("static fields that are not final", found("\\bstatic (?!final\\b)[^(){};]*[;=]", code), 0);
    c.due("nested classes that are not static", found("(?m)^ {4,}(private |final )*(class|record|enum) ", code), 0);
  }

  private static void methods(Check c, String code) {
    Matcher m = Pattern.compile("(?m)^( {4}| {8})[A-Za-z][\\w ]*[ ]?\\w+\\(([^()]*)\\) \\{$").matcher(code);
    int n = 0;
    while (m.find()) {
      n++;
      int end = code.indexOf("\n" + m.group(1) + "}", m.start());
      String body = code.substring(m.start(), end);
      String name = body.lines().findFirst().orElse("").trim();
      c.holds(name + " has at most 60 lines", body.lines().count() < 60);
      c.holds(name + " takes at most 7", m.group(2).split(",").length <= 7);
    }
    c.holds("methods were found: " + n, n > 80);
  }
}
