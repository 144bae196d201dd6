/** The edges of promises 16 to 20 and of the Terms' part 4; a test for each sentence. */
public final class EdgesSilencesTest {
  private static final int NONE = Check.NONE, BAD = Check.BAD, ROOM = Check.ROOM;
  private static final int LEAST = Check.LEAST, GREATEST = Check.GREATEST;

  public static void main(String[] args) {
    Check c = new Check();
    oneOrMore(c);
    inItsOrder(c);
    where(c);
    blanks(c);
    words(c);
    everyByteBetween(c);
    numbers(c);
    textsOf20(c);
    everyByteInAText(c);
    textsThatDoNotEnd(c);
    semicolons(c);
    linesOfNow(c);
    withoutABuild(c);
    filesAndKinds(c);
    until(c);
    secondLine(c);
    firstFault(c);
    theEnd(c);
    taken(c);
    nothingOfARefusedOne(c);
    room(c);
    roomForSome(c);
    linesTold(c);
    partners(c);
    fileAndAllInEachBuild(c);
    holds(c);
    firstThatHolds(c);
    itsKind(c);
    onlyTold(c);
    silentEdges(c);
    silentAnswers(c);
    held(c);
    reason(c);
    lift(c);
    liftOfMany(c);
    c.end();
  }

  /** NOW is 2 and has four LINES. */
  private static AlarmGroups four() {
    AlarmGroups x = new AlarmGroups();
    x.build();
    x.build();
    Check.build(x, 0, 1, 0, 2, 1, 3, 5, 4);
    return x;
  }

  private static AlarmGroups with(String text) {
    AlarmGroups x = four();
    Check.silence(x, text);
    return x;
  }

  private static void fine(Check c, String text, int due) {
    AlarmGroups x = four();
    c.due(text, Check.silence(x, text), due);
    c.due("count(4) behind " + text, x.count(4), due);
  }

  private static void fault(Check c, String text, int place) {
    AlarmGroups x = four();
    c.due(text, Check.silence(x, text), Check.fault(place));
    c.due("count(4) behind " + text, x.count(4), 0);
  }

  private static void oneOrMore(Check c) {
    c.sentence(0, "A text of some: one or more, one behind the other");
    fault(c, "", 0);
    fault(c, " ", 1);
    fault(c, " ".repeat(160), 160);
    fine(c, "silence all;", 1);
    fine(c, "silence all;".repeat(12), 12);
    fine(c, "silence all;silence line 0;silence file 0;", 3);
  }

  private static void inItsOrder(Check c) {
    c.sentence(0, "silence WHERE [ kind NUMBER ] [ until NUMBER ] [ because TEXT ] ;");
    String[] parts = {" kind 1", " until 3", " because 'x'"};
    for (int set = 0; set < 8; set++) {
      StringBuilder s = new StringBuilder("silence all");
      for (int i = 0; i < 3; i++) {
        s.append((set >> i & 1) == 1 ? parts[i] : "");
      }
      AlarmGroups x = with(s + ";");
      c.due(s + ": KIND", x.silent(0, 1), (set & 1) == 1 ? 1 : NONE);
      c.due(s + ": until", x.silent(0, 0), (set & 2) == 2 ? 3 : NONE);
      c.due(s + ": TEXT", x.reason(0, -1), (set & 4) == 4 ? 1 : 0);
    }
    fault(c, "silence all until 3 kind 1;", 20);
    fault(c, "silence all because 'x' kind 1;", 24);
    fault(c, "silence all because 'x' until 3;", 24);
    fault(c, "silence all kind 1 kind 1;", 19);
    fault(c, "silence all until 3 until 3;", 20);
    fault(c, "silence all because 'x' because 'x';", 24);
    fault(c, "silence all kind;", 16);
    fault(c, "silence all kind 'x';", 17);
    fault(c, "silence all until;", 17);
    fault(c, "silence all until kind 1;", 18);
    fault(c, "silence all because;", 19);
    fault(c, "silence all because 7;", 20);
    fault(c, "silence;", 7);
    fault(c, "silence silence all;", 8);
    fault(c, "all;", 0);
    fault(c, "7;", 0);
    fault(c, "'x';", 0);
  }

  private static void where(Check c) {
    c.sentence(0, "WHERE: line NUMBER, lines NUMBER to NUMBER, file NUMBER, all");
    fine(c, "silence line 0;", 1);
    fine(c, "silence lines 0 to 3;", 1);
    fine(c, "silence file 0;", 1);
    fault(c, "silence lines;", 13);
    fault(c, "silence lines 0;", 15);
    fault(c, "silence lines 0 1;", 16);
    fault(c, "silence lines 0 to;", 18);
    fault(c, "silence lines 0 to to;", 19);
    fault(c, "silence lines to 3;", 14);
    fault(c, "silence line 0 to 3;", 15);
    fault(c, "silence line;", 12);
    fault(c, "silence line line;", 13);
    fault(c, "silence file;", 12);
    fault(c, "silence files 0;", 8);
    fault(c, "silence all 0;", 12);
    fault(c, "silence all all;", 12);
    fault(c, "silence al;", 8);
    fault(c, "silence 0;", 8);
  }

  private static void blanks(Check c) {
    c.sentence(0, "TOKENS, with bytes 32 between them or not");
    fine(c, "silence lines0to3kind9until2because'x';silence all;", 2);
    fine(c, "   silence   lines   0   to   3   kind   9   until   2   because   'x'   ;   ", 1);
    fine(c, "silence line 0;   silence all   ;", 2);
    for (char b : new char[] {0, 9, 10, 13, 31, 33, 160, 255}) {
      fault(c, "silence" + b + "all;", 7);
      fault(c, b + "silence all;", 0);
      fault(c, "silence all;" + b, 12);
    }
  }

  private static void words(Check c) {
    c.sentence(0, "WORDS (a .. z, as long as can be)");
    fault(c, "silenceall;", 0);
    fault(c, "silences all;", 0);
    fault(c, "silenc all;", 0);
    fault(c, "silence alll;", 8);
    fault(c, "silence allkind 1;", 8);
    fault(c, "silence all kindd 1;", 12);
    fault(c, "silence all kin 1;", 12);
    fault(c, "silence lines 0 too 3;", 16);
    fault(c, "silence lines 0 t 3;", 16);
    fault(c, "silence all untill 3;", 12);
    fault(c, "silence all becausex 'x';", 12);
    fault(c, "silence line 0x;", 14);
    eachWordByItsLetters(c);
    // the bytes ahead of a and behind z, and great letters
    fault(c, "`silence all;", 0);
    fault(c, "silence` all;", 7);
    fault(c, "silence{ all;", 7);
    fault(c, "Silence all;", 0);
    fault(c, "silencE all;", 0);
  }

  /** Each WORD with another first, last or middle letter. */
  private static void eachWordByItsLetters(Check c) {
    String text = "silence lines 0 to 3 kind 1 until 2 because 'x';silence line 0;silence file 0;silence all;";
    int[] starts = {0, 8, 16, 21, 28, 36, 48, 56, 63, 71, 78, 86};
    fine(c, text, 4);
    for (int start : starts) {
      for (int i = start; Character.isLetter(text.charAt(i)); i++) {
        fault(c, text.substring(0, i) + (text.charAt(i) == 'q' ? 'r' : 'q') + text.substring(i + 1), start);
      }
    }
  }

  private static void everyByteBetween(Check c) {
    c.sentence(0, "another byte are no TOKENS");
    for (int b = 0; b < 256; b++) {
      String text = "silence all" + (char) b + ";";
      if (b == ' ') {
        fine(c, text, 1);
      } else if (b == ';') {
        fault(c, text, 12);
      } else {
        fault(c, text, b >= 'a' && b <= 'z' ? 8 : 11);
      }
    }
  }

  private static void numbers(Check c) {
    c.sentence(0, "NUMBERS (0 .. 9, likewise, 6 at most)");
    fine(c, "silence line 000003;", 1);
    fault(c, "silence line 0000003;", 13);
    fault(c, "silence line 0000000;", 13);
    fine(c, "silence lines 000000 to 000003 kind 000009 until 000011;", 1);
    fault(c, "silence lines 0000000 to 3;", 14);
    fault(c, "silence lines 0 to 0000003;", 19);
    fault(c, "silence file 0000000;", 13);
    fault(c, "silence all kind 0000000;", 17);
    fault(c, "silence all until 0000011;", 18);
    fault(c, "silence line 999999;", 13);
    fault(c, "silence line 9999999999;", 13);
    fault(c, "silence line 4294967296;", 13);
    fault(c, "silence line 1 2;", 15);
    fault(c, "silence line -1;", 13);
    fault(c, "silence line /;", 13);
    fault(c, "silence line :;", 13);
    fault(c, "silence line 0/;", 14);
    fault(c, "silence line 0:;", 14);
    AlarmGroups x = with("silence line 000003;");
    c.due("it is 3", x.held(0), 8);
    AlarmGroups y = new AlarmGroups();
    Check.lines(y, 40);
    y.build();
    c.due("all digits", Check.silence(y, "silence lines 12 to 34;silence lines 5 to 09;silence lines 6 to 7;silence line 8;"), 4);
    c.due("12 to 34", y.held(0), (1L << 35) - (1L << 12));
    c.due("5 to 9", y.held(1), (1L << 10) - (1L << 5));
  }

  private static void textsOf20(Check c) {
    c.sentence(0, "TEXTS (byte 39, 0 to 20 bytes 32 .. 126 but 39, byte 39)");
    for (int n = 0; n <= 20; n++) {
      AlarmGroups x = with("silence all because '" + "abcdefghijklmnopqrst".substring(0, n) + "';");
      c.due("a TEXT of " + n, x.reason(0, -1), n);
      c.same("it", Check.reason(x, 0), "abcdefghijklmnopqrst".substring(0, n));
    }
    fault(c, "silence all because '" + "x".repeat(21) + "';", 20);
    fault(c, "silence all because '" + "x".repeat(100) + "';", 20);
    AlarmGroups x = with("silence all because ';silence all kind 1;';");
    c.due("; and WORDS in a TEXT", x.count(4), 1);
    c.same("it", Check.reason(x, 0), ";silence all kind 1;");
    AlarmGroups y = with("silence all because ' ';silence all because '  a  ';");
    c.same("a blank", Check.reason(y, 0), " ");
    c.same("blanks", Check.reason(y, 1), "  a  ");
  }

  private static void everyByteInAText(Check c) {
    c.sentence(0, "0 to 20 bytes 32 .. 126 but 39");
    for (int b = 0; b < 256; b++) {
      String text = "silence all because 'a" + (char) b + "c';";
      if (b == 39) {
        // 'a', then a WORD
        fault(c, text, 23);
      } else if (b >= 32 && b <= 126) {
        AlarmGroups x = with(text);
        c.due("byte " + b + " in a TEXT", x.reason(0, 1), b);
      } else {
        fault(c, text, 20);
      }
    }
  }

  private static void textsThatDoNotEnd(Check c) {
    c.sentence(0, "(A NUMBER of 7, a TEXT that does not end or is longer, another byte are no TOKENS.)");
    fault(c, "silence all because '", 20);
    fault(c, "silence all because 'x", 20);
    fault(c, "silence all because 'x;", 20);
    fault(c, "silence all because '" + "x".repeat(20), 20);
    fault(c, "silence all because '" + "x".repeat(20) + ";", 20);
    fault(c, "silence all because 'x'';", 23);
    fault(c, "silence all because '''", 22);
    fault(c, "silence all because" + " ".repeat(119) + "'" + "x".repeat(20) + ";", 138);
    String last = "silence all because" + " ".repeat(118) + "'" + "x".repeat(20) + "';";
    c.due("a TEXT that ends at byte 158", Check.silence(four(), last), 1);
  }

  private static void semicolons(Check c) {
    c.sentence(0, "; alone");
    fault(c, ";", 0);
    fault(c, "silence all;;", 12);
    fault(c, "silence all;;silence all;", 12);
    fault(c, ";silence all;", 0);
    fault(c, "silence all silence all;", 12);
    fault(c, "silence all; silence all", 24);
  }

  private static void linesOfNow(Check c) {
    c.sentence(0, "A NUMBER can't stand, too, that is no LINE of NOW, FILE, KIND, BUILD 0 .. 11");
    fine(c, "silence line 3;", 1);
    fault(c, "silence line 4;", 13);
    fine(c, "silence lines 3 to 3;", 1);
    fault(c, "silence lines 4 to 4;", 14);
    fault(c, "silence lines 0 to 4;", 19);
    AlarmGroups x = new AlarmGroups();
    Check.lines(x, 40);
    x.build();
    c.due("LINE 39 of 40", Check.silence(x, "silence line 39;"), 1);
    c.due("LINE 40 of 40", Check.silence(x, "silence line 40;"), Check.fault(13));
    c.due("LINES 0 to 39 of 40", Check.silence(x, "silence lines 0 to 39;"), 2);
    c.due("LINES 0 to 40 of 40", Check.silence(x, "silence lines 0 to 40;"), Check.fault(19));
    x.line(0, 0);
    x.build();
    c.due("LINE 0 of 1", Check.silence(x, "silence line 0;"), 3);
    c.due("LINE 1 of 1, though the BUILD before had it", Check.silence(x, "silence line 1;"), Check.fault(13));
    x.build();
    c.due("LINE 0 of none", Check.silence(x, "silence line 0;"), Check.fault(13));
  }

  private static void withoutABuild(Check c) {
    c.sentence(16, "(without a BUILD no LINE can stand)");
    AlarmGroups x = new AlarmGroups();
    Check.lines(x, 3);
    c.due("line 0", Check.silence(x, "silence line 0;"), Check.fault(13));
    c.due("lines 0 to 0", Check.silence(x, "silence lines 0 to 0;"), Check.fault(14));
    c.due("none came", x.count(4), 0);
    c.due("file and all", Check.silence(x, "silence file 5 kind 9;silence all;"), 2);
    c.due("until 0", Check.silence(x, "silence all until 0;"), 3);
    c.due("until 11", Check.silence(x, "silence all until 11;"), 4);
    c.due("until 12", Check.silence(x, "silence all until 12;"), Check.fault(18));
    c.due("HOLDS without a BUILD", x.silent(2, 4), 1);
    c.each("no LINES", x::held, 0, 0, 1, 2, 3);
    x.build();
    c.due("HOLDS in BUILD 0", x.silent(2, 4), 1);
    c.due("its LINES", x.held(2), 7);
    x.build();
    c.due("HOLDS in BUILD 1", x.silent(2, 4), 0);
  }

  private static void filesAndKinds(Check c) {
    c.sentence(0, "A NUMBER can't stand, too, that is no LINE of NOW, FILE, KIND");
    fine(c, "silence file 0;silence file 5;", 2);
    fault(c, "silence file 6;", 13);
    fault(c, "silence file 10;", 13);
    fine(c, "silence all kind 0;silence all kind 9;", 2);
    fault(c, "silence all kind 10;", 17);
    fault(c, "silence all kind 999999;", 17);
  }

  private static void until(Check c) {
    c.sentence(0, "a second LINE below the first, an until below NOW");
    fault(c, "silence all until 0;", 18);
    fault(c, "silence all until 1;", 18);
    fine(c, "silence all until 2;", 1);
    fine(c, "silence all until 11;", 1);
    fault(c, "silence all until 12;", 18);
    AlarmGroups x = new AlarmGroups();
    for (int b = 0; b < 12; b++) {
      x.build();
    }
    c.due("until 10 in BUILD 11", Check.silence(x, "silence all until 10;"), Check.fault(18));
    c.due("until 11 in BUILD 11", Check.silence(x, "silence all until 11;"), 1);
    c.due("until 12 in BUILD 11", Check.silence(x, "silence all until 12;"), Check.fault(18));
    AlarmGroups y = new AlarmGroups();
    y.build();
    c.due("until 0 in BUILD 0", Check.silence(y, "silence all until 0;"), 1);
  }

  private static void secondLine(Check c) {
    c.sentence(0, "a second LINE below the first");
    fault(c, "silence lines 1 to 0;", 19);
    fault(c, "silence lines 3 to 2;", 19);
    fine(c, "silence lines 2 to 2;", 1);
    fine(c, "silence lines 2 to 3;", 1);
    AlarmGroups x = with("silence lines 2 to 2;silence lines 1 to 3;silence lines 0 to 0;");
    c.due("2 to 2", x.held(0), 4);
    c.due("1 to 3", x.held(1), 14);
    c.due("0 to 0", x.held(2), 1);
  }

  private static void firstFault(Check c) {
    c.sentence(0, "A FAULT is -10 less the place of the first byte that can't stand there, of what the TOKEN that can't begins with");
    fault(c, "x silence line 9;", 0);
    fault(c, "silence line 9 kind 99 'x", 13);
    fault(c, "silence all kind 10 until 1;", 17);
    fault(c, "silence all until 1 because 7;", 18);
    fault(c, "silence all;silence line 4;silence x;", 25);
    fault(c, "silence   every;", 10);
    fault(c, "silence all   1234567;", 14);
    fault(c, "silence every 'x", 8);
  }

  private static void theEnd(Check c) {
    c.sentence(0, "the end: how many bytes there are");
    String[] begun = {"silence", "silence line", "silence line 0", "silence lines", "silence lines 0", "silence lines 0 to",
        "silence lines 0 to 3", "silence file", "silence file 0", "silence all", "silence all kind", "silence all kind 1",
        "silence all until", "silence all until 2", "silence all because", "silence all because 'x'", "silence all;silence"};
    for (String text : begun) {
      fault(c, text, text.length());
      fault(c, text + "  ", text.length() + 2);
    }
  }

  private static void taken(Check c) {
    c.sentence(16, "THE TEXT (taken) is a text of SILENCES, which come behind the others: how many there are.");
    AlarmGroups x = four();
    c.due("one", Check.silence(x, "silence file 1;"), 1);
    c.due("taken", x.count(6), 0);
    c.due("two more", Check.silence(x, "silence file 2;silence file 3;"), 3);
    for (int k = 0; k < 3; k++) {
      c.due("FILE of " + k, x.silent(k, 3), k + 1);
    }
    c.due("a FAULT", Check.silence(x, "silence file 4;silence file"), Check.fault(27));
    c.due("taken", x.count(6), 0);
    c.due("none came", x.count(4), 3);
    c.due("nothing is left to take", x.silence(), Check.fault(0));
  }

  private static void isBare(Check c, AlarmGroups x, int k, long lines) {
    int[] due = {NONE, NONE, 0, NONE, 1, 0};
    for (int what = 0; what < 6; what++) {
      c.due("silent(" + k + ", " + what + ")", x.silent(k, what), due[what]);
    }
    c.due("held(" + k + ")", x.held(k), lines);
    c.due("reason(" + k + ", -1)", x.reason(k, -1), 0);
    c.due("reason(" + k + ", 0)", x.reason(k, 0), BAD);
  }

  private static void nothingOfARefusedOne(Check c) {
    c.sentence(0, "What is refused changes nothing");
    String[] begun = {"silence lines 0 to 3 kind 5 until 7 because 'old';x", "silence file 5 kind 5 until 7 because 'old' x",
        "silence all kind 5 until 7 because 'old'", "silence lines 1 to 3 kind 5 until 7 because 7"};
    for (String text : begun) {
      AlarmGroups x = four();
      c.holds("a FAULT: " + text, Check.silence(x, text) <= -10);
      Check.silence(x, "silence line 0;");
      isBare(c, x, 0, 1);
    }
    AlarmGroups full = with("silence all;".repeat(11));
    c.due("no ROOM", Check.silence(full, "silence lines 1 to 3 kind 5 until 7 because 'old';silence all kind 4;"), ROOM);
    Check.silence(full, "silence line 0;");
    isBare(c, full, 11, 1);
    AlarmGroups lifted = with("silence lines 1 to 3 kind 5 until 7 because 'old';");
    lifted.lift(0);
    Check.silence(lifted, "silence line 0;");
    isBare(c, lifted, 0, 1);
  }

  private static void room(Check c) {
    c.sentence(16, "ROOM: none comes.");
    AlarmGroups x = four();
    c.due("13 in one text", Check.silence(x, "silence all;".repeat(13)), ROOM);
    c.due("taken", x.count(6), 0);
    c.due("none came", x.count(4), 0);
    c.due("12 in one text", Check.silence(x, "silence all;".repeat(12)), 12);
    c.due("one more", Check.silence(x, "silence file 0;"), ROOM);
    c.due("taken", x.count(6), 0);
    c.due("a FAULT ahead of ROOM", Check.silence(x, "silence file 0;x"), Check.fault(15));
    c.due("a FAULT of the 14th ahead of ROOM", Check.silence(x, "silence all;".repeat(13) + "x"), Check.fault(156));
    c.due("12", x.count(4), 12);
    c.due("silent(11, 2)", x.silent(11, 2), 2);
    c.due("silent(12, 2)", x.silent(12, 2), BAD);
  }

  private static void roomForSome(Check c) {
    c.sentence(0, "SILENCES, 12 at most.");
    AlarmGroups x = four();
    for (int i = 1; i <= 10; i++) {
      c.due("silence " + i, Check.silence(x, "silence line 0;"), i);
    }
    c.due("three where two have room", Check.silence(x, "silence all;silence all;silence all;"), ROOM);
    c.due("none came", x.count(4), 10);
    c.due("silent(10, 0)", x.silent(10, 0), BAD);
    c.due("the others are as they were", x.held(9), 1);
    c.due("two", Check.silence(x, "silence file 4;silence file 5;"), 12);
    c.due("silent(11, 3)", x.silent(11, 3), 5);
    c.due("one more", Check.silence(x, "silence all;"), ROOM);
    c.due("lift", x.lift(0), 11);
    c.due("one more", Check.silence(x, "silence all;"), 12);
  }

  private static void linesTold(Check c) {
    c.sentence(0, "A SILENCE has LINES: those told");
    AlarmGroups x = with("silence line 0;silence line 3;silence lines 0 to 3;silence lines 1 to 2;");
    long[] due = {1, 8, 15, 6};
    for (int k = 0; k < 4; k++) {
      c.due("held(" + k + ")", x.held(k), due[k]);
    }
    for (int line = 0; line < 4; line++) {
      x.alarm(line, 0, 1, 1, 2);
    }
    int[] by = {0, 2, 2, 1};
    for (int a = 0; a < 4; a++) {
      c.due("of(" + a + ", 5)", x.of(a, 5), by[a]);
    }
  }

  private static void partners(Check c) {
    c.sentence(0, "with a new BUILD they are their PARTNERS (what has none goes: alarms return there)");
    AlarmGroups x = Check.built(0, 1, 0, 2, 0, 3);
    Check.silence(x, "silence lines 0 to 2;silence line 1;");
    Check.build(x, 0, 9, 0, 1, 0, 3);
    c.due("those with a PARTNER", x.held(0), 6);
    c.due("none is left", x.held(1), 0);
    c.due("it is a SILENCE still", x.silent(1, 2), 0);
    c.due("and HOLDS", x.silent(1, 4), 1);
    Check.build(x, 0, 2, 0, 1, 0, 3);
    c.due("what went does not come again", x.held(0), 6);
    x.alarm(0, 0, 1, 1, 2);
    x.alarm(1, 0, 1, 1, 2);
    c.due("alarms return there", x.of(0, 5), NONE);
    c.due("but not here", x.of(1, 5), 0);
    x.build();
    c.due("all go", x.held(0), 0);
    c.due("two SILENCES", x.count(4), 2);
    AlarmGroups y = new AlarmGroups();
    Check.lines(y, 40);
    y.build();
    Check.silence(y, "silence lines 0 to 39;");
    Check.build(y, 0, 39);
    c.due("39 is 0", y.held(0), 1);
    Check.lines(y, 40);
    y.build();
    c.due("0 is 39", y.held(0), 1L << 39);
  }

  private static void fileAndAllInEachBuild(Check c) {
    c.sentence(0, "One of a FILE has all of that, of all each, in each BUILD.");
    AlarmGroups x = Check.built(0, 1, 5, 2);
    Check.silence(x, "silence file 5;silence all;");
    c.due("of FILE 5", x.held(0), 2);
    c.due("of all", x.held(1), 3);
    Check.build(x, 5, 7, 5, 8, 1, 9);
    c.due("of FILE 5, new LINES", x.held(0), 3);
    c.due("of all, new LINES", x.held(1), 7);
    x.build();
    c.due("of FILE 5, none", x.held(0), 0);
    c.due("of all, none", x.held(1), 0);
    Check.build(x, 5, 1);
    c.due("of FILE 5, again", x.held(0), 1);
  }

  private static void holds(Check c) {
    c.sentence(0, "It HOLDS, if NOW is not above its until (always without).");
    AlarmGroups x = new AlarmGroups();
    Check.silence(x, "silence all until 0;silence all until 1;silence all until 11;silence all;");
    c.each("HOLDS, without a BUILD", k -> x.silent(k, 4), 1, 0, 1, 2, 3);
    int[] until = {0, 1, 11, 12};
    for (int b = 0; b < 12; b++) {
      x.build();
      for (int k = 0; k < 4; k++) {
        c.due(k + " HOLDS in " + b, x.silent(k, 4), b <= until[k] ? 1 : 0);
      }
    }
    c.due("its until stays", x.silent(0, 0), 0);
    c.due("a BUILD that is refused", x.build(), ROOM);
    c.due("HOLDS", x.silent(2, 4), 1);
  }

  private static void firstThatHolds(Check c) {
    c.sentence(0, "An ALARM that is TOLD is SILENCED by the first that HOLDS, has its LINE, and its KIND (or none).");
    AlarmGroups x = Check.built(0, 1, 1, 2);
    x.alarm(0, 3, 1, 1, 2);
    Check.silence(x, "silence line 1;silence line 0 kind 4;silence all until 0;silence file 0;silence all;");
    c.due("by the first", x.of(0, 5), 2);
    Check.build(x, 0, 1, 1, 2);
    x.alarm(0, 3, 1, 1, 2);
    c.due("that HOLDS", x.of(0, 5), 3);
    c.due("silent(2, 5)", x.silent(2, 5), 0);
    c.due("silent(3, 5)", x.silent(3, 5), 1);
    c.due("silent(4, 5)", x.silent(4, 5), 0);
    x.lift(3);
    c.due("then the next", x.of(0, 5), 3);
    x.lift(3);
    c.due("then none", x.of(0, 5), NONE);
  }

  private static void itsKind(Check c) {
    c.sentence(0, "and its KIND (or none)");
    AlarmGroups x = Check.built(0, 1);
    x.alarm(0, 0, 1, 1, 2);
    x.alarm(0, 9, 1, 1, 2);
    x.alarm(0, 5, 1, 1, 2);
    Check.silence(x, "silence all kind 0;silence line 0 kind 9;silence file 0;");
    c.due("KIND 0", x.of(0, 5), 0);
    c.due("KIND 9", x.of(1, 5), 1);
    c.due("of no KIND", x.of(2, 5), 2);
    c.each("each silences one", k -> x.silent(k, 5), 1, 0, 1, 2);
  }

  private static void onlyTold(Check c) {
    c.sentence(0, "An ALARM that is TOLD is SILENCED");
    AlarmGroups x = Check.built(0, 1);
    Check.silence(x, "silence all;");
    x.alarm(0, 0, 0, 1, 2);
    c.due("TOLD, though CLOSED", x.of(0, 5), 0);
    c.due("silent(0, 5)", x.silent(0, 5), 1);
    Check.build(x, 0, 1);
    c.due("CARRIED", x.of(0, 5), NONE);
    c.due("silent(0, 5)", x.silent(0, 5), 0);
    Check.build(x, 0, 1);
    c.due("GONE", x.of(0, 5), NONE);
  }

  private static void silentEdges(Check c) {
    c.sentence(17, "5 how many ALARMS are SILENCED by it. BAD.");
    AlarmGroups x = four();
    c.each("silent(n, 0), without one", n -> x.silent(n, 0), BAD, LEAST, -1, 0, GREATEST);
    Check.silence(x, "silence all;");
    c.each("silent(n, 0)", n -> x.silent(n, 0), BAD, LEAST, -1, 1, 12, GREATEST);
    c.each("silent(0, n)", n -> x.silent(0, n), BAD, LEAST, -2, -1, 6, GREATEST);
    c.each("silent(1, n)", n -> x.silent(1, n), BAD, 0, 5, 6);
    c.due("silent(0, 0)", x.silent(0, 0), NONE);
    c.due("silent(0, 5)", x.silent(0, 5), 0);
    AlarmGroups y = new AlarmGroups();
    Check.lines(y, 5);
    y.build();
    for (int i = 0; i < 50; i++) {
      y.alarm(i / 10, i % 10, 1, 1, 2);
    }
    Check.silence(y, "silence all;");
    c.due("50 are SILENCED", y.silent(0, 5), 50);
  }

  private static void silentAnswers(Check c) {
    c.sentence(17, "0 its until (NONE), 1 KIND (NONE), 2 0 of LINES, 1 of a FILE, 2 of all, 3 that FILE (NONE), 4 whether it HOLDS (0, 1)");
    AlarmGroups x = with("silence line 0 kind 0 until 2;silence lines 0 to 3 kind 9 until 11;silence file 0;silence file 5;silence all;");
    int[][] due = {{2, 0, 0, NONE, 1, 0}, {11, 9, 0, NONE, 1, 0}, {NONE, NONE, 1, 0, 1, 0}, {NONE, NONE, 1, 5, 1, 0}, {NONE, NONE, 2, NONE, 1, 0}};
    for (int k = 0; k < 5; k++) {
      for (int what = 0; what < 6; what++) {
        c.due("silent(" + k + ", " + what + ")", x.silent(k, what), due[k][what]);
      }
    }
  }

  private static void held(Check c) {
    c.sentence(18, "The LINES of NOW that SILENCE k has, as bits. BAD (which it may not be).");
    AlarmGroups x = new AlarmGroups();
    Check.lines(x, 40);
    x.build();
    c.each("held(n), without one", x::held, BAD, LEAST, -1, 0, GREATEST);
    Check.silence(x, "silence line 0;silence line 31;silence line 32;silence line 39;silence lines 0 to 39;silence file 0;silence all;silence file 1;");
    long whole = (1L << 40) - 1;
    long[] due = {1, 1L << 31, 1L << 32, 1L << 39, whole, whole, whole, 0};
    for (int k = 0; k < 8; k++) {
      c.due("held(" + k + ")", x.held(k), due[k]);
    }
    c.each("held(n)", x::held, BAD, LEAST, -1, 8, 12, GREATEST);
    AlarmGroups y = Check.built(0, 1);
    Check.silence(y, "silence line 0 until 0;");
    Check.build(y, 0, 1);
    c.due("one that does not HOLD has its LINES", y.held(0), 1);
  }

  private static void reason(Check c) {
    c.sentence(19, "Byte i of the TEXT of SILENCE k; i = -1: how many. BAD.");
    AlarmGroups x = four();
    c.each("reason(n, -1), without one", n -> x.reason(n, -1), BAD, LEAST, -1, 0, GREATEST);
    Check.silence(x, "silence all;silence all because '';silence all because 'z';silence all because '" + "~".repeat(20) + "';");
    int[] sizes = {0, 0, 1, 20};
    for (int k = 0; k < 4; k++) {
      int silence = k;
      c.due("reason(" + k + ", -1)", x.reason(k, -1), sizes[k]);
      c.each("reason(" + k + ", n)", n -> x.reason(silence, n), BAD, LEAST, -2, sizes[k], GREATEST);
    }
    c.due("reason(2, 0)", x.reason(2, 0), 'z');
    c.due("reason(3, 0)", x.reason(3, 0), '~');
    c.due("reason(3, 19)", x.reason(3, 19), '~');
    c.each("reason(n, -1)", n -> x.reason(n, -1), BAD, LEAST, -1, 4, GREATEST);
    c.each("reason(n, 0)", n -> x.reason(n, 0), BAD, LEAST, -1, 4, GREATEST);
  }

  private static void lift(Check c) {
    c.sentence(20, "SILENCE k goes, those behind it are one less: how many there are. BAD.");
    AlarmGroups x = four();
    c.each("lift(n), without one", x::lift, BAD, LEAST, -1, 0, GREATEST);
    Check.silence(x, "silence file 1;silence file 2 because 'two';silence file 3;");
    c.each("lift(n)", x::lift, BAD, LEAST, -1, 3, 12, GREATEST);
    c.due("three still", x.count(4), 3);
    c.due("the first", x.lift(0), 2);
    c.due("the second is the first", x.silent(0, 3), 2);
    c.same("with its TEXT", Check.reason(x, 0), "two");
    c.due("the third is the second", x.silent(1, 3), 3);
    c.due("the last", x.lift(1), 1);
    c.due("none is there", x.silent(1, 3), BAD);
    c.due("the only one", x.lift(0), 0);
    c.due("none is left", x.lift(0), BAD);
  }

  private static void liftOfMany(Check c) {
    c.sentence(20, "those behind it are one less");
    AlarmGroups x = four();
    Check.silence(x, "silence all kind 0;silence all kind 1;silence all kind 2;silence all kind 3;silence all kind 4;silence all kind 5;");
    Check.silence(x, "silence all kind 6;silence all kind 7;silence all kind 8;silence all kind 9;silence all;silence file 0;");
    c.due("of 12 the sixth", x.lift(5), 11);
    for (int k = 0; k < 11; k++) {
      c.due("KIND of " + k, x.silent(k, 1), k < 5 ? k : k < 9 ? k + 1 : NONE);
    }
    c.due("a new one is the last", Check.silence(x, "silence line 3 kind 5 until 7 because 'new';"), 12);
    c.due("its KIND", x.silent(11, 1), 5);
    c.due("the one ahead of it", x.silent(10, 3), 0);
    c.due("of 12 the last", x.lift(11), 11);
    c.due("of 11 the first", x.lift(0), 10);
    c.due("KIND of 0", x.silent(0, 1), 1);
    c.due("another new one has nothing of those", Check.silence(x, "silence all;"), 11);
    int[] due = {NONE, NONE, 2, NONE, 1, 0};
    for (int what = 0; what < 6; what++) {
      c.due("silent(10, " + what + ")", x.silent(10, what), due[what]);
    }
    c.due("reason(10, -1)", x.reason(10, -1), 0);
  }
}
