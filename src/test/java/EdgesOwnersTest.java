/** The edges of promises 21 to 23 and of the Terms' part 5; a test for each sentence. */
public final class EdgesOwnersTest {
  private static final int NONE = Check.NONE, BAD = Check.BAD, ROOM = Check.ROOM;
  private static final int LEAST = Check.LEAST, GREATEST = Check.GREATEST;
  private static final String ALL24 = "abcdefgh/ijklmnop/qrstuv";

  public static void main(String[] args) {
    Check c = new Check();
    pathEmpty(c);
    atFirst(c);
    noParts(c);
    pathParts(c);
    pathBytes(c);
    path24(c);
    pathFile(c);
    pathTaken(c);
    patternParts(c);
    patternBytes(c);
    patternStars(c);
    pattern24(c);
    patternOwner(c);
    pattern8(c);
    patternTaken(c);
    starFits(c);
    doubleStarFits(c);
    wholePath(c);
    longest(c);
    toldLast(c);
    ownerEdges(c);
    c.end();
  }

  private static void path(Check c, String text, int due) {
    AlarmGroups x = new AlarmGroups();
    c.due("path of \"" + text + "\"", Check.path(x, 0, text), due);
    c.due("taken", x.count(6), 0);
  }

  private static void pattern(Check c, String text, int due) {
    AlarmGroups x = new AlarmGroups();
    c.due("pattern of \"" + text + "\"", Check.pattern(x, 0, text), due);
    c.due("taken", x.count(6), 0);
    c.due("count(5)", x.count(5), due > 0 ? 1 : 0);
  }

  private static int owner(String pattern, String path) {
    AlarmGroups x = new AlarmGroups();
    Check.pattern(x, 9, pattern);
    Check.path(x, 5, path);
    return x.owner(5);
  }

  private static void fits(Check c, String pattern, String path) {
    c.due(pattern + " fits \"" + path + "\"", owner(pattern, path), 9);
  }

  private static void fitsNot(Check c, String pattern, String path) {
    c.due(pattern + " does not fit \"" + path + "\"", owner(pattern, path), NONE);
  }

  private static void pathEmpty(Check c) {
    c.sentence(21, "THE TEXT (taken) is the PATH of a FILE (empty: none): how many bytes.");
    AlarmGroups x = new AlarmGroups();
    c.due("empty", x.path(0), 0);
    Check.pattern(x, 1, "a");
    Check.pattern(x, 2, "**");
    c.due("at first", x.owner(0), 2);
    Check.pattern(x, 3, "a");
    c.due("a PATH", Check.path(x, 0, "a"), 1);
    c.due("its OWNER", x.owner(0), 3);
    c.due("empty again", x.path(0), 0);
    c.due("its OWNER", x.owner(0), 2);
  }

  private static void atFirst(Check c) {
    c.sentence(0, "A FILE has a PATH, at first empty");
    AlarmGroups x = new AlarmGroups();
    Check.pattern(x, 1, "**");
    Check.pattern(x, 2, "*");
    Check.pattern(x, 3, "**/*");
    c.each("owner(n)", x::owner, 1, 0, 1, 2, 3, 4, 5);
  }

  private static void noParts(Check c) {
    c.sentence(0, "An empty one has no PARTS.");
    for (String pattern : new String[] {"**", "**/**", "**/**/**"}) {
      fits(c, pattern, "");
    }
    for (String pattern : new String[] {"a", "*", "*/*", "**/*", "*/**", "a/**", "**/a", "_", "."}) {
      fitsNot(c, pattern, "");
    }
  }

  private static void pathParts(Check c) {
    c.sentence(0, "PARTS with / between, each of 1 byte a .. z . _ or more, 24 bytes in all at most.");
    path(c, "a", 1);
    path(c, "a/b", 3);
    path(c, "a/b/c/d/e/f/g/h/i/j/k/l", 23);
    path(c, "./..", 4);
    path(c, "/", Check.fault(0));
    path(c, "/a", Check.fault(0));
    path(c, "a/", Check.fault(2));
    path(c, "a//b", Check.fault(2));
    path(c, "a/b//", Check.fault(4));
    path(c, "a/b/", Check.fault(4));
  }

  private static void pathBytes(Check c) {
    c.sentence(0, "each of 1 byte a .. z . _ or more");
    for (int b = 0; b < 256; b++) {
      boolean stands = b >= 'a' && b <= 'z' || b == '.' || b == '_';
      path(c, "" + (char) b, stands ? 1 : Check.fault(0));
      path(c, "a" + (char) b, stands ? 2 : b == '/' ? Check.fault(2) : Check.fault(1));
      path(c, "a" + (char) b + "c", stands || b == '/' ? 3 : Check.fault(1));
    }
  }

  private static void path24(Check c) {
    c.sentence(21, "BAD; a FAULT (of a byte above 24, too).");
    path(c, ALL24.substring(0, 23), 23);
    path(c, ALL24, 24);
    path(c, ALL24 + "w", Check.fault(24));
    path(c, ALL24 + "/", Check.fault(24));
    path(c, ALL24 + "?", Check.fault(24));
    path(c, "a".repeat(24), 24);
    path(c, "a".repeat(25), Check.fault(24));
    path(c, "a".repeat(160), Check.fault(24));
    path(c, "a".repeat(23) + "?", Check.fault(23));
    path(c, "a".repeat(23) + "/", Check.fault(24));
    path(c, "a".repeat(23) + "/a", Check.fault(24));
    path(c, "a".repeat(22) + "/a", 24);
    path(c, "a".repeat(22) + "//", Check.fault(23));
    path(c, "a".repeat(10) + "?" + "a".repeat(20), Check.fault(10));
    path(c, "a".repeat(30) + "?", Check.fault(24));
  }

  private static void pathFile(Check c) {
    c.sentence(21, "BAD; a FAULT");
    AlarmGroups x = new AlarmGroups();
    c.each("path(n) of none", x::path, BAD, LEAST, -1, 6, GREATEST);
    c.each("path(n) of a", n -> Check.path(x, n, "a"), BAD, LEAST, -1, 6, GREATEST);
    c.each("path(n) of what is a FAULT, too", n -> Check.path(x, n, "//"), BAD, LEAST, -1, 6, GREATEST);
    c.due("path(0)", Check.path(x, 0, "a"), 1);
    c.due("path(5)", Check.path(x, 5, "ab"), 2);
    Check.pattern(x, 1, "a");
    Check.pattern(x, 2, "ab");
    c.due("owner(0)", x.owner(0), 1);
    c.due("owner(5)", x.owner(5), 2);
    c.each("the others have none", x::owner, NONE, 1, 2, 3, 4);
  }

  private static void pathTaken(Check c) {
    c.sentence(0, "but THE TEXT (empty behind a call that takes it, whatever it answers)");
    AlarmGroups x = new AlarmGroups();
    Check.pattern(x, 1, "old");
    Check.path(x, 0, "old");
    Check.say(x, "new");
    c.due("BAD", x.path(6), BAD);
    c.due("THE TEXT", x.count(6), 0);
    c.due("a FAULT", Check.path(x, 0, "new/"), Check.fault(4));
    c.due("THE TEXT", x.count(6), 0);
    c.due("of 25 bytes", Check.path(x, 0, "n".repeat(25)), Check.fault(24));
    c.due("the PATH stays", x.owner(0), 1);
  }

  private static void patternParts(Check c) {
    c.sentence(0, "are likewise, of 1 PART or more");
    pattern(c, "", Check.fault(0));
    pattern(c, "a", 1);
    pattern(c, "*", 1);
    pattern(c, "**", 1);
    pattern(c, "a/*/**/b", 1);
    pattern(c, "/", Check.fault(0));
    pattern(c, "*/", Check.fault(2));
    pattern(c, "**/", Check.fault(3));
    pattern(c, "**//a", Check.fault(3));
    pattern(c, "/**", Check.fault(0));
  }

  private static void patternBytes(Check c) {
    c.sentence(22, "THE TEXT (taken) is a PATTERN more, of an OWNER: how many. BAD; a FAULT (likewise); ROOM.");
    for (int b = 0; b < 256; b++) {
      boolean stands = b >= 'a' && b <= 'z' || b == '.' || b == '_' || b == '*';
      pattern(c, "" + (char) b, stands ? 1 : Check.fault(0));
      pattern(c, "a" + (char) b + "c", stands || b == '/' ? 1 : Check.fault(1));
    }
  }

  private static void patternStars(Check c) {
    c.sentence(0, "(also none; no two * are side by side there)");
    pattern(c, "a*", 1);
    pattern(c, "*a", 1);
    pattern(c, "*a*", 1);
    pattern(c, "a*b*c", 1);
    pattern(c, "*/*", 1);
    pattern(c, "**/**", 1);
    pattern(c, "*/**/*", 1);
    pattern(c, "a**", Check.fault(2));
    pattern(c, "a**b", Check.fault(2));
    pattern(c, "*a**", Check.fault(3));
    pattern(c, "***", Check.fault(2));
    pattern(c, "**a", Check.fault(2));
    pattern(c, "**.", Check.fault(2));
    pattern(c, "a/b**", Check.fault(4));
    pattern(c, "a/**b", Check.fault(4));
    pattern(c, "a/***", Check.fault(4));
  }

  private static void pattern24(Check c) {
    c.sentence(22, "a FAULT (likewise)");
    pattern(c, ALL24, 1);
    pattern(c, ALL24 + "w", Check.fault(24));
    pattern(c, ALL24 + "*", Check.fault(24));
    pattern(c, ALL24 + "?", Check.fault(24));
    pattern(c, "a".repeat(23) + "*", 1);
    pattern(c, "a".repeat(23) + "**", Check.fault(24));
    pattern(c, "a".repeat(22) + "**", Check.fault(23));
    pattern(c, "a".repeat(21) + "/**", 1);
    pattern(c, "a".repeat(22) + "/**", Check.fault(24));
    pattern(c, "a".repeat(23) + "/", Check.fault(24));
    pattern(c, "a".repeat(160), Check.fault(24));
  }

  private static void patternOwner(Check c) {
    c.sentence(0, "PATTERNS (8 at most, each with an OWNER 0 .. 9)");
    AlarmGroups x = new AlarmGroups();
    c.each("pattern(n)", n -> Check.pattern(x, n, "**"), BAD, LEAST, -1, 10, GREATEST);
    c.each("pattern(n) of what is a FAULT, too", n -> Check.pattern(x, n, ""), BAD, LEAST, -1, 10, GREATEST);
    c.due("none came", x.count(5), 0);
    c.due("pattern(0)", Check.pattern(x, 0, "**"), 1);
    c.due("OWNER 0", x.owner(0), 0);
    c.due("pattern(9)", Check.pattern(x, 9, "**"), 2);
    c.due("OWNER 9", x.owner(0), 9);
  }

  private static void pattern8(Check c) {
    c.sentence(0, "PATTERNS (8 at most");
    AlarmGroups x = new AlarmGroups();
    Check.path(x, 0, "h");
    for (int i = 1; i <= 8; i++) {
      c.due("pattern " + i, Check.pattern(x, i, "" + (char) ('a' + i - 1)), i);
    }
    c.due("the eighth fits", x.owner(0), 8);
    c.due("pattern 9", Check.pattern(x, 9, "**"), ROOM);
    c.due("taken", x.count(6), 0);
    c.due("a FAULT ahead of ROOM", Check.pattern(x, 9, "**a"), Check.fault(2));
    c.due("BAD ahead of ROOM", Check.pattern(x, 10, "**"), BAD);
    c.due("BAD ahead of both", Check.pattern(x, -1, "**a"), BAD);
    c.due("8", x.count(5), 8);
    c.due("nothing has changed", x.owner(0), 8);
  }

  private static void patternTaken(Check c) {
    c.sentence(22, "THE TEXT (taken) is a PATTERN more");
    AlarmGroups x = new AlarmGroups();
    Check.say(x, "**");
    c.due("BAD", x.pattern(10), BAD);
    c.due("taken", x.count(6), 0);
    c.due("none is left", x.pattern(0), Check.fault(0));
    c.due("the same twice", Check.pattern(x, 1, "a") * 10 + Check.pattern(x, 1, "a"), 12);
  }

  private static void starFits(Check c) {
    c.sentence(0, "* in a PART stands for any bytes (also none");
    fits(c, "*", "a");
    fits(c, "*", "a".repeat(24));
    fits(c, "a*", "a");
    fits(c, "*a", "a");
    fits(c, "a*b", "ab");
    fits(c, "a*b", "axxb");
    fits(c, "*a*", "a");
    fits(c, "*.*", ".");
    fits(c, "*ab", "aab");
    fits(c, "a*a", "aa");
    fits(c, "*a*a*a*", "aaa");
    fits(c, "*a", "ba");
    fits(c, "a*", "ab");
    fitsNot(c, "*a", "b");
    fitsNot(c, "a*", "b");
    fitsNot(c, "*a", "a/a");
    fitsNot(c, "a*", "a/a");
    fitsNot(c, "*a", "");
    fitsNot(c, "a*a", "a");
    fitsNot(c, "*a*a*a*", "aa");
    fitsNot(c, "*", "");
    fitsNot(c, "*", "a/b");
    fitsNot(c, "a*b", "a/b");
    fitsNot(c, "*/*", "a");
    fitsNot(c, "*ab", "abb");
    fitsNot(c, ".", "a");
  }

  private static void doubleStarFits(Check c) {
    c.sentence(0, "a PART that is just ** for any PARTS (also none)");
    fits(c, "**", "");
    fits(c, "**/**", "");
    fits(c, "**", "a");
    fits(c, "**", "a/b/c/d/e/f/g/h/i/j/k/l");
    fits(c, "a/**", "a");
    fits(c, "**/a", "a");
    fits(c, "a/**/b", "a/b");
    fits(c, "a/**/b", "a/x/y/b");
    fits(c, "**/a/**", "x/a/y");
    fits(c, "**/**/a", "a");
    fits(c, "**/*", "a");
    fitsNot(c, "**/*", "");
    fitsNot(c, "a/**", "");
    fitsNot(c, "a/**/b", "a");
    fitsNot(c, "a/**/a", "a");
    fitsNot(c, "a/**", "ab");
    fitsNot(c, "**/a", "ba");
    fitsNot(c, "**/*/*", "a");
  }

  private static void wholePath(Check c) {
    c.sentence(0, "Of a FILE the OWNER is that of the PATTERN told last that its whole PATH fits; NONE.");
    fits(c, "ab", "ab");
    fitsNot(c, "ab", "a");
    fitsNot(c, "ab", "abc");
    fitsNot(c, "ab", "ab/c");
    fitsNot(c, "ab", "c/ab");
    fitsNot(c, "a", "");
    fitsNot(c, "a/b", "a");
    fitsNot(c, "a/b", "b");
    fits(c, "a/b", "a/b");
    fitsNot(c, "a/b", "a/b/c");
    fitsNot(c, "a.b", "a/b");
  }

  private static void longest(Check c) {
    c.sentence(0, "24 bytes in all at most");
    fits(c, ALL24, ALL24);
    fitsNot(c, ALL24, ALL24.substring(0, 23));
    fitsNot(c, ALL24.substring(0, 23), ALL24);
    fits(c, "*/*/*", ALL24);
    fits(c, "a/b/c/d/e/f/g/h/i/j/k/ll", "a/b/c/d/e/f/g/h/i/j/k/ll");
    fits(c, "*/*/*/*/*/*/*/*/*/*/*/*", "a/b/c/d/e/f/g/h/i/j/k/l");
    fitsNot(c, "*/*/*/*/*/*/*/*/*/*/*/*", "a/b/c/d/e/f/g/h/i/j/k");
    fits(c, "*a*a*a*a*a*a*a*a*a*a*a*a", "a".repeat(24));
    fitsNot(c, "*a*a*a*a*a*a*a*a*a*a*a*b", "a".repeat(24));
    fits(c, "**/**/**/**/**/**/**/**", "a/a/a/a/a/a/a/a/a/a/a/a");
    fitsNot(c, "**/a/**/a/**/a/**/a/**/b", "a/a/a/a/a/a/a/a/a/a/a/a");
  }

  private static void toldLast(Check c) {
    c.sentence(0, "that of the PATTERN told last");
    AlarmGroups x = new AlarmGroups();
    Check.path(x, 0, "a/b");
    int[] due = {7, 7, 2, 2, 0, 0, 9, 9};
    String[] texts = {"**", "b", "a/*", "a", "*/b", "a/b/c", "a/b", "*"};
    int[] owners = {7, 1, 2, 3, 0, 4, 9, 5};
    for (int i = 0; i < 8; i++) {
      Check.pattern(x, owners[i], texts[i]);
      c.due("behind " + texts[i], x.owner(0), due[i]);
    }
    Check.path(x, 0, "a");
    c.due("of a new PATH", x.owner(0), 5);
    Check.path(x, 0, "");
    c.due("of none", x.owner(0), 7);
  }

  private static void ownerEdges(Check c) {
    c.sentence(23, "The OWNER of a FILE; NONE. BAD.");
    AlarmGroups x = new AlarmGroups();
    c.each("owner(n)", x::owner, BAD, LEAST, -1, 6, GREATEST);
    c.each("owner(n)", x::owner, NONE, 0, 1, 2, 3, 4, 5);
    Check.pattern(x, 0, "**");
    c.each("owner(n)", x::owner, BAD, LEAST, -1, 6, GREATEST);
    c.each("owner(n)", x::owner, 0, 0, 1, 2, 3, 4, 5);
  }
}
