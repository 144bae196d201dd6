/** The edges of promises 1 to 6, of the Terms' part 1, and of what all calls share; a test for each sentence. */
public final class EdgesBuildsTest {
  private static final int NONE = Check.NONE, BAD = Check.BAD, ROOM = Check.ROOM;
  private static final int LEAST = Check.LEAST, GREATEST = Check.GREATEST;

  public static void main(String[] args) {
    Check c = new Check();
    calls512(c);
    text160(c);
    newObject(c);
    firstOfEach(c);
    feedBytes(c);
    feedEdges(c);
    feedRoom(c);
    cut(c);
    files(c);
    marks(c);
    lines40(c);
    linesFrom0(c);
    builds12(c);
    draftIsEmptyThen(c);
    draftStays(c);
    partner(c);
    partnerNone(c);
    matchedByFile(c);
    matchedRising(c);
    matchedEnds(c);
    matchedAlike(c);
    matchedTie(c);
    c.end();
  }

  private static void calls512(Check c) {
    c.sentence(0, "An object is used for at most 512 calls after it has been made");
    AlarmGroups x = Check.built(0, 1);
    for (int i = 0; i < 254; i++) {
      x.feed(8, i);
      x.cut(0);
    }
    c.due("call 511", x.alarm(0, 0, 1, 1, 2), 0);
    c.due("call 512", x.rank(0), 0);
    AlarmGroups y = new AlarmGroups();
    for (int i = 0; i < 511; i++) {
      y.line(i % 6, i);
    }
    c.due("call 512 of another", y.build(), 0);
  }

  private static void text160(Check c) {
    c.sentence(0, "THE TEXT has at most 160 bytes.");
    for (int n = 1; n <= 8; n++) {
      AlarmGroups x = new AlarmGroups();
      Check.say(x, "z".repeat(160 - n));
      c.due("feed of " + n + " to 160", x.feed(n, 0), 160);
      AlarmGroups y = new AlarmGroups();
      Check.say(y, "z".repeat(161 - n));
      c.due("feed of " + n + " to 161", y.feed(n, 0), ROOM);
      c.due("what is there then", y.count(6), 161 - n);
    }
    c.due("all 160 are taken", Check.silence(new AlarmGroups(), "silence all" + " ".repeat(148) + ";"), 1);
    c.due("byte 159 can't stand", Check.silence(new AlarmGroups(), "silence all" + " ".repeat(148) + "x"), Check.fault(159));
    c.due("the end, 160", Check.silence(new AlarmGroups(), "silence all" + " ".repeat(149)), Check.fault(160));
    c.due("160 that are no TOKENS", Check.silence(new AlarmGroups(), ";".repeat(160)), Check.fault(0));
    c.due("a WORD of 160", Check.silence(new AlarmGroups(), "a".repeat(160)), Check.fault(0));
  }

  private static void newObject(Check c) {
    c.sentence(1, "No BUILDS, ALARMS, RULES, SILENCES, PATTERNS; nothing is PROVED; THE TEXT, THE DRAFT, OUT are empty.");
    AlarmGroups x = new AlarmGroups();
    c.each("count", x::count, 0, 0, 1, 2, 3, 4, 5, 6, 7, 8, 9);
    c.due("known(NONE)", x.known(NONE), 0);
    c.due("groups", x.groups(), 0);
    c.due("rank(0)", x.rank(0), NONE);
    c.due("chosen(0)", x.chosen(0), NONE);
    c.due("outByte(0)", x.outByte(0), NONE);
    c.due("cut(0)", x.cut(0), 0);
    c.due("back(0, 0)", x.back(0, 0), 0);
    c.due("read", x.read(), 0);
    c.due("out", x.out(), 0);
    c.due("budget(50, 50)", x.budget(50, 50), 0);
    c.each("owner", x::owner, NONE, 0, 5);
    for (int fact = 0; fact < 16; fact++) {
      c.due("known(" + fact + ")", x.known(fact), 1 << fact);
    }
  }

  private static void firstOfEach(Check c) {
    c.sentence(1, "No BUILDS, ALARMS, RULES, SILENCES, PATTERNS; nothing is PROVED; THE TEXT, THE DRAFT, OUT are empty.");
    AlarmGroups x = new AlarmGroups();
    c.due("feed", x.feed(1, 'a'), 1);
    c.due("pattern", x.pattern(0), 1);
    c.due("silence", Check.silence(x, "silence all kind 1;"), 1);
    c.due("rule", x.rule(1, 1), 1);
    c.due("line", x.line(0, 0), 1);
    c.due("build", x.build(), 0);
    c.due("alarm", x.alarm(0, 0, 1, 1, 2), 0);
    c.due("groups", x.groups(), 1);
    c.due("out", x.out(), 8);
  }

  private static void feedBytes(Check c) {
    c.sentence(2, "The n lowest bytes of w, the highest first, come behind THE TEXT: how many it has.");
    long[] above = {0L, 0x7F7F7F7F7F7F7F7FL, -1L, Long.MIN_VALUE, Long.MAX_VALUE};
    String letters = "ABCDEFGH";
    for (int n = 1; n <= 8; n++) {
      long w = 0;
      for (int i = 0; i < n; i++) {
        w = w << 8 | letters.charAt(i);
      }
      for (long over : above) {
        AlarmGroups x = new AlarmGroups();
        Check.say(x, "silence all because '");
        c.due("feed of " + n, x.feed(n, n == 8 ? w : over << 8 * n | w), 21 + n);
        Check.say(x, "';");
        x.silence();
        c.same("the bytes of " + n, Check.reason(x, 0), letters.substring(0, n));
      }
    }
    for (long w : new long[] {Long.MIN_VALUE, Long.MAX_VALUE, -1L, 0L}) {
      AlarmGroups x = new AlarmGroups();
      c.due("feed(8, " + w + ")", x.feed(8, w), 8);
      c.due("none of it can stand", x.path(0), Check.fault(0));
    }
  }

  private static void feedEdges(Check c) {
    c.sentence(2, "BAD: n is not 1 .. 8.");
    AlarmGroups x = new AlarmGroups();
    c.each("feed(n, 0)", n -> x.feed(n, 0), BAD, LEAST, -1, 0, 9, GREATEST);
    c.due("THE TEXT is empty still", x.count(6), 0);
    c.due("feed(1, 0)", x.feed(1, 0), 1);
    c.due("feed(8, 0)", x.feed(8, 0), 9);
  }

  private static void feedRoom(Check c) {
    c.sentence(2, "ROOM.");
    AlarmGroups x = new AlarmGroups();
    Check.say(x, "a/" + " ".repeat(151));
    c.due("8 behind 153", x.feed(8, -1), ROOM);
    c.due("none of the 8 came", x.count(6), 153);
    c.due("7 behind 153", x.feed(7, 0), 160);
    c.due("1 behind 160", x.feed(1, 0), ROOM);
    c.due("0 behind 160 is BAD", x.feed(0, 0), BAD);
    c.due("9 behind 160 is BAD", x.feed(9, 0), BAD);
    c.due("160 are there", x.cut(3), 157);
    c.due("what was there is there", x.path(0), Check.fault(2));
  }

  private static void cut(Check c) {
    c.sentence(3, "THE TEXT keeps its first n bytes: how many go. BAD.");
    AlarmGroups none = new AlarmGroups();
    c.due("0 of 0", none.cut(0), 0);
    c.each("cut of 0", none::cut, BAD, LEAST, -1, 1, GREATEST);
    AlarmGroups x = new AlarmGroups();
    Check.say(x, "abc/defg" + "z".repeat(152));
    c.each("cut of 160", x::cut, BAD, LEAST, -1, 161, GREATEST);
    c.due("160 of 160", x.cut(160), 0);
    c.due("159 of 160", x.cut(159), 1);
    c.due("160 of 159", x.cut(160), BAD);
    c.due("24 of 159", x.cut(24), 135);
    c.due("3 of 24", x.cut(3), 21);
    c.due("3 are kept", x.path(0), 3);
    Check.pattern(x, 1, "abc");
    c.due("the first ones", x.owner(0), 1);
    Check.say(x, "a");
    c.due("0 of 1", x.cut(0), 1);
    c.due("none is left", x.count(6), 0);
  }

  private static void files(Check c) {
    c.sentence(0, "each of a FILE (0 .. 5)");
    AlarmGroups x = new AlarmGroups();
    c.each("line(n, 0)", n -> x.line(n, 0), BAD, LEAST, -1, 6, GREATEST);
    c.due("none came", x.count(7), 0);
    c.due("FILE 0", x.line(0, 0), 1);
    c.due("FILE 5", x.line(5, 0), 2);
    x.build();
    Check.silence(x, "silence file 0;silence file 5;");
    c.due("LINES of FILE 0", x.held(0), 1);
    c.due("LINES of FILE 5", x.held(1), 2);
  }

  private static void marks(Check c) {
    c.sentence(0, "with a MARK (an int: what stands there)");
    int[][] unlike = {{LEAST, GREATEST}, {LEAST, 0}, {-1, GREATEST}, {0, 256}, {0, 65536}, {-1, 255}, {-1, 65535}, {1, -1}, {0, 1 << 24}};
    for (int[] pair : unlike) {
      AlarmGroups x = Check.built(0, pair[0]);
      Check.build(x, 0, pair[1]);
      c.due(pair[0] + " and " + pair[1], x.partner(0), NONE);
    }
    for (int mark : new int[] {LEAST, -1, 0, 1, GREATEST}) {
      AlarmGroups x = Check.built(3, mark);
      Check.build(x, 3, mark);
      c.due(mark + " twice", x.partner(0), 0);
    }
  }

  private static void lines40(Check c) {
    c.sentence(4, "A LINE comes behind THE DRAFT: how many it has. BAD; ROOM.");
    AlarmGroups x = new AlarmGroups();
    for (int i = 1; i <= 40; i++) {
      c.due("line " + i, x.line(0, i), i);
    }
    c.due("line 41", x.line(0, 41), ROOM);
    c.each("BAD ahead of ROOM", n -> x.line(n, 0), BAD, LEAST, -1, 6, GREATEST);
    c.due("still 40", x.count(7), 40);
    x.build();
    c.due("LINES of NOW", x.count(1), 40);
    for (int i = 1; i <= 40; i++) {
      x.line(0, i);
    }
    x.line(0, 1);
    x.build();
    for (int i = 0; i < 40; i++) {
      c.due("LINE " + i + " is as it came", x.partner(i), i);
    }
    c.due("LINE 40", x.partner(40), BAD);
  }

  private static void linesFrom0(Check c) {
    c.sentence(0, "A BUILD has LINES, 40 at most, from 0 on");
    AlarmGroups x = new AlarmGroups();
    Check.lines(x, 41);
    x.build();
    c.due("LINES of NOW", x.count(1), 40);
    c.due("LINE 0", x.alarm(0, 0, 1, 1, 2), 0);
    c.due("LINE 39", x.alarm(39, 0, 1, 1, 2), 1);
    c.due("LINE 40", x.alarm(40, 0, 1, 1, 2), BAD);
    c.due("LINE -1", x.alarm(-1, 0, 1, 1, 2), BAD);
  }

  private static void builds12(Check c) {
    c.sentence(0, "BUILDS, 12 at most, from 0 on; the latest is NOW.");
    AlarmGroups x = new AlarmGroups();
    for (int b = 0; b < 12; b++) {
      Check.lines(x, b);
      c.due("build " + b, x.build(), b);
      c.due("BUILDS", x.count(0), b + 1);
      c.due("NOW is the latest", x.count(1), b);
    }
    c.due("build 12", x.build(), ROOM);
    c.due("BUILDS", x.count(0), 12);
    c.due("trend(11, 0)", x.trend(11, 0), 0);
    c.due("trend(12, 0)", x.trend(12, 0), BAD);
  }

  private static void draftIsEmptyThen(Check c) {
    c.sentence(5, "THE DRAFT, empty then, is the next BUILD: its number.");
    AlarmGroups x = new AlarmGroups();
    c.due("of no LINES", x.build(), 0);
    c.due("LINES of NOW", x.count(1), 0);
    Check.lines(x, 40);
    c.due("of 40", x.build(), 1);
    c.due("LINES of NOW", x.count(1), 40);
    c.due("THE DRAFT", x.count(7), 0);
    c.due("of none again", x.build(), 2);
    c.due("LINES of NOW", x.count(1), 0);
    c.due("the first LINE again", x.line(0, 0), 1);
  }

  private static void draftStays(Check c) {
    c.sentence(5, "ROOM (THE DRAFT stays).");
    AlarmGroups x = new AlarmGroups();
    for (int b = 0; b < 11; b++) {
      x.build();
    }
    Check.build(x, 0, 7);
    x.alarm(0, 0, 1, 1, 2);
    Check.silence(x, "silence line 0 kind 1;");
    Check.lines(x, 39);
    c.due("build 12", x.build(), ROOM);
    c.due("THE DRAFT stays", x.count(7), 39);
    c.due("LINE 40 comes", x.line(0, 0), 40);
    c.due("build 12 again", x.build(), ROOM);
    c.due("LINE 41", x.line(0, 0), ROOM);
    c.due("NOW stays", x.count(1), 1);
    c.due("its ALARM is TOLD", x.of(0, 3), 0);
    c.due("its ALARM is of one BUILD", x.of(0, 7), 1);
    c.due("its SILENCE has its LINE", x.held(0), 1);
    c.due("its ALARM is of NOW", x.trend(11, 0), 1);
  }

  private static void partner(Check c) {
    c.sentence(6, "The PARTNER of a LINE of NOW in the BUILD before; NONE. BAD.");
    AlarmGroups x = new AlarmGroups();
    c.each("without a BUILD", x::partner, BAD, LEAST, -1, 0, GREATEST);
    x.line(0, 1);
    c.due("of THE DRAFT", x.partner(0), BAD);
    x.build();
    c.due("of the first BUILD", x.partner(0), NONE);
    c.each("of 1", x::partner, BAD, LEAST, -1, 1, 40, GREATEST);
    x.build();
    c.due("of none", x.partner(0), BAD);
  }

  private static void partnerNone(Check c) {
    c.sentence(6, "NONE.");
    AlarmGroups x = Check.built(0, 1, 0, 2, 0, 3);
    Check.build(x, 0, 3, 0, 4);
    c.due("a like one", x.partner(0), 2);
    c.due("no like one", x.partner(1), NONE);
    Check.build(x, 0, 4, 0, 1);
    c.due("of the BUILD before", x.partner(0), 1);
    c.due("not of the one before that", x.partner(1), NONE);
    Check.build(x);
    Check.build(x, 0, 4);
    c.due("the one before has no LINES", x.partner(0), NONE);
  }

  private static void matchedByFile(Check c) {
    c.sentence(0, "for each FILE, with its LINES of the one before (p from 0 on) and of the later one (q likewise)");
    AlarmGroups x = Check.built(0, 1, 1, 1, 2, 1, 3, 1, 4, 1, 5, 1);
    Check.build(x, 5, 1, 4, 1, 3, 1, 2, 1, 1, 1, 0, 1);
    for (int i = 0; i < 6; i++) {
      c.due("FILES cross: " + i, x.partner(i), 5 - i);
    }
    AlarmGroups y = Check.built(0, 7);
    Check.build(y, 1, 7);
    c.due("a like MARK of another FILE", y.partner(0), NONE);
  }

  private static void matchedRising(Check c) {
    c.sentence(0, "how many pairs of like MARKS there can be at most, of LINES from p, from q on, rising on both sides");
    AlarmGroups x = Check.built(0, 1, 0, 2, 0, 3, 0, 4);
    Check.build(x, 0, 4, 0, 3, 0, 1, 0, 2);
    int[] due = {NONE, NONE, 0, 1};
    for (int i = 0; i < 4; i++) {
      c.due("two that rise, of four: " + i, x.partner(i), due[i]);
    }
    AlarmGroups y = Check.built(0, 5, 0, 5, 0, 5);
    Check.build(y, 0, 5, 0, 5);
    c.due("each once: 0", y.partner(0), 0);
    c.due("each once: 1", y.partner(1), 1);
    Check.build(y, 0, 5, 0, 5, 0, 5);
    c.due("none is left", y.partner(2), NONE);
    AlarmGroups older = Check.built(0, 1, 0, 2, 0, 5, 0, 5, 0, 5);
    Check.build(older, 0, 5, 0, 1, 0, 2);
    c.due("one 5 counts once, so 1 and 2 are more", older.partner(0), NONE);
    c.due("1", older.partner(1), 0);
    c.due("2", older.partner(2), 1);
    AlarmGroups newer = Check.built(0, 5, 0, 1, 0, 2);
    Check.build(newer, 0, 1, 0, 2, 0, 5, 0, 5, 0, 5);
    c.due("the other way: 1", newer.partner(0), 1);
    c.due("the other way: 2", newer.partner(1), 2);
    c.due("the other way: 5", newer.partner(2), NONE);
  }

  private static void matchedEnds(Check c) {
    c.sentence(0, "From 0, 0 on, as long as there are both");
    AlarmGroups x = new AlarmGroups();
    Check.lines(x, 40);
    x.build();
    Check.build(x, 0, 39);
    c.due("the last of 40, alone", x.partner(0), 39);
    Check.lines(x, 40);
    x.build();
    c.due("alone, the last of 40", x.partner(39), 0);
    for (int i = 0; i < 39; i++) {
      c.due("no like one: " + i, x.partner(i), NONE);
    }
    Check.lines(x, 40);
    x.build();
    for (int i = 0; i < 40; i++) {
      c.due("40 and 40: " + i, x.partner(i), i);
    }
  }

  private static void matchedAlike(Check c) {
    c.sentence(0, "if the MARKS are alike, they are PARTNERS, and it goes on behind both");
    AlarmGroups x = Check.built(0, 5, 0, 5, 0, 6);
    Check.build(x, 0, 5, 0, 6);
    c.due("the first 5 of two", x.partner(0), 0);
    c.due("then 6, behind the other 5", x.partner(1), 2);
    Check.build(x, 0, 5, 0, 5, 0, 6);
    c.due("the first 5 takes it", x.partner(0), 0);
    c.due("the other 5 has none", x.partner(1), NONE);
    c.due("then 6", x.partner(2), 1);
  }

  private static void matchedTie(Check c) {
    c.sentence(0, "if MOST of p + 1, q is not less than that of p, q + 1, behind p; else behind q.");
    AlarmGroups like = Check.built(0, 1, 0, 2);
    Check.build(like, 0, 2, 0, 1);
    c.due("like ones: behind p, so 2 is matched", like.partner(0), 1);
    c.due("like ones: 1 is not", like.partner(1), NONE);
    AlarmGroups less = Check.built(0, 1, 0, 2, 0, 3);
    Check.build(less, 0, 3, 0, 1, 0, 2);
    c.due("less: behind q, so 3 is not matched", less.partner(0), NONE);
    c.due("less: 1", less.partner(1), 0);
    c.due("less: 2", less.partner(2), 1);
    AlarmGroups more = Check.built(0, 3, 0, 1, 0, 2);
    Check.build(more, 0, 1, 0, 2, 0, 3);
    c.due("more: behind p: 1", more.partner(0), 1);
    c.due("more: behind p: 2", more.partner(1), 2);
    c.due("more: 3 is not matched", more.partner(2), NONE);
  }
}
