/** Promises 21 to 23: path, pattern, owner. */
public final class OwnersTest {
  private static final String LONG = "abcdefgh/ijklmnop/qrstuv";

  public static void main(String[] args) {
    Check c = new Check();
    path(c);
    pattern(c);
    owner(c);
    fits(c);
    c.end();
  }

  private static void path(Check c) {
    AlarmGroups x = new AlarmGroups();
    String[] texts = {"", "a", "z/z", "._/..", LONG, "/", "a/", "a//b", "/a", "a*", "A", "a0", "a b", "a/b/",
        LONG + "w", LONG + "/", LONG.substring(0, 23) + "/", LONG.substring(0, 23) + "/a", "a\u00e9", LONG + LONG + "A"};
    int[] due = {0, 1, 3, 5, 24, -10, -12, -12, -10, -11, -10, -11, -11, -14, -34, -34, -34, -34, -11, -34};
    for (int i = 0; i < texts.length; i++) {
      c.due("path " + texts[i], Check.path(x, 1, texts[i]), due[i]);
      c.due("taken " + texts[i], x.count(6), 0);
    }
    Check.say(x, "abc");
    c.due("path(6)", x.path(6), -2);
    c.due("taken with BAD", x.count(6), 0);
    Check.say(x, "a//b");
    c.due("path(-1)", x.path(-1), -2);
    c.due("taken with BAD", x.count(6), 0);
    Check.pattern(x, 3, "abc");
    Check.path(x, 0, "abc");
    c.due("owner(0)", x.owner(0), 3);
    Check.path(x, 0, "ab/");
    c.due("a FAULT changes nothing", x.owner(0), 3);
    Check.path(x, 0, "ab");
    c.due("a new PATH", x.owner(0), -1);
    Check.path(x, 0, "abc");
    Check.path(x, 0, "");
    c.due("none", x.owner(0), -1);
  }

  private static void pattern(Check c) {
    String[] texts = {"", "/", "a/", "*", "**", "***", "**a", "a**", "*a*", "*a**", "a/**/b", "**/**", "a/***", "**/*/**",
        "a//b", "*/", "**/", "A", "a/**b", LONG, LONG + "*", "**\u00ff", "a *"};
    int[] due = {-10, -10, -12, 1, 1, -12, -12, -12, 1, -13, 1, 1, -14, 1, -12, -12, -13, -10, -14, 1, -34, -12, -11};
    for (int i = 0; i < texts.length; i++) {
      AlarmGroups x = new AlarmGroups();
      c.due("pattern " + texts[i], Check.pattern(x, 9, texts[i]), due[i]);
      c.due("taken " + texts[i], x.count(6), 0);
      c.due("count " + texts[i], x.count(5), due[i] > 0 ? 1 : 0);
    }
    AlarmGroups x = new AlarmGroups();
    for (int i = 1; i <= 8; i++) {
      c.due("pattern " + i, Check.pattern(x, i, "a"), i);
    }
    c.due("pattern 9", Check.pattern(x, 0, "**"), -4);
    c.due("taken with ROOM", x.count(6), 0);
    c.due("a FAULT ahead of ROOM", Check.pattern(x, 0, "b//"), -12);
    c.due("BAD ahead of a FAULT", Check.pattern(x, 10, "b//"), -2);
    c.due("taken with BAD", x.count(6), 0);
    c.due("BAD", Check.pattern(x, -1, "a"), -2);
    c.due("count(5)", x.count(5), 8);
    c.due("nothing came", x.owner(0), -1);
  }

  private static void owner(Check c) {
    AlarmGroups x = new AlarmGroups();
    c.due("owner(6)", x.owner(6), -2);
    c.due("owner(-1)", x.owner(-1), -2);
    c.due("owner(5)", x.owner(5), -1);
    Check.path(x, 5, "src/a.c");
    Check.pattern(x, 1, "src/**");
    Check.pattern(x, 2, "**/*.c");
    Check.pattern(x, 0, "**/*.h");
    c.due("that told last", x.owner(5), 2);
    Check.pattern(x, 1, "src/*");
    c.due("that told last", x.owner(5), 1);
    Check.path(x, 5, "a.h");
    c.due("a new PATH", x.owner(5), 0);
    Check.path(x, 5, "a");
    c.due("none fits", x.owner(5), -1);
    Check.pattern(x, 4, "**");
    c.due("all FILES", x.owner(0) * 10 + x.owner(5), 44);
  }

  private static void fits(Check c) {
    String[][] fit = {{"**", ""}, {"**", "a"}, {"**", "a/b/c"}, {"**/**", ""}, {"*", "abc"}, {"a*", "a"}, {"*a", "a"},
        {"a*c", "abbc"}, {"a*c", "ac"}, {"*a*b*", "xxaxxbxx"}, {"*a*b*", "ab"}, {"a/**/b", "a/b"}, {"a/**/b", "a/x/b"},
        {"a/**/b", "a/b/b/b"}, {"**/b", "b"}, {"a/**", "a"}, {"a/**", "a/b/c"}, {"**/a/**", "x/a/y"}, {"**/a/**", "a"},
        {"*/*", "a/b"}, {"**/*", "a"}, {"**/*/**", "a/b/c"}, {"**/a/**/b", "a/c/a/b"}, {"a.c", "a.c"}, {"*ab", "aab"},
        {"*ab*ab", "abaab"}, {"a/b/c/d/e/f/g/h/i/j/k/ll", "a/b/c/d/e/f/g/h/i/j/k/ll"}, {"**", LONG}, {LONG, LONG},
        {"*", "abcdefghijklmnopqrstuvwx"}, {"**/k/*", "a/b/c/d/e/f/g/h/i/j/k/ll"}};
    String[][] not = {{"*", ""}, {"*", "a/b"}, {"a", ""}, {"a", "ab"}, {"a", "b"}, {"a/b", "a"}, {"a", "a/b"}, {"a*c", "abb"},
        {"a/**/b", "a"}, {"a/**/b", "b"}, {"a/**/b", "a/x"}, {"**/b", "ab"}, {"**/b", "a/ab"}, {"*/*", "a"}, {"*/*", "a/b/c"},
        {"**/*", ""}, {"**/*/*", "a"}, {"a.c", "abc"}, {"a*/b", "a/c/b"}, {"*a*a*", "xaxx"}, {"a/b", "a_b"}, {"a/**", "b/a"},
        {"**/a/**/a", "a"}, {"*ab", "aba"}};
    for (String[] pair : fit) {
      c.due(pair[0] + " fits " + pair[1], ownerBy(pair), 6);
    }
    for (String[] pair : not) {
      c.due(pair[0] + " fits not " + pair[1], ownerBy(pair), -1);
    }
  }

  private static int ownerBy(String[] patternAndPath) {
    AlarmGroups x = new AlarmGroups();
    Check.pattern(x, 6, patternAndPath[0]);
    Check.path(x, 2, patternAndPath[1]);
    return x.owner(2);
  }
}
