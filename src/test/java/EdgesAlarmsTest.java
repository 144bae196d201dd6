/** The edges of promises 7 to 9 and of the Terms' part 2; a test for each sentence. */
public final class EdgesAlarmsTest {
  private static final int NONE = Check.NONE, BAD = Check.BAD, ROOM = Check.ROOM;
  private static final int LEAST = Check.LEAST, GREATEST = Check.GREATEST;
  private static final int TOLD = 0, CARRIED = 1, GONE = 2;

  public static void main(String[] args) {
    Check c = new Check();
    alarmLine(c);
    alarmKind(c);
    alarmWants(c);
    alarmOdds(c);
    alarmRoom(c);
    fullButThere(c);
    numbered(c);
    carried(c);
    goneWithItsLine(c);
    goneFromCarried(c);
    toldAgain(c);
    ofAlarm(c);
    ofWhat(c);
    ofOfGone(c);
    ofSilencedAndOwned(c);
    ofClosed(c);
    ofBuilds(c);
    why(c);
    whyFull(c);
    c.end();
  }

  private static AlarmGroups lines(int n) {
    AlarmGroups x = new AlarmGroups();
    Check.lines(x, n);
    x.build();
    return x;
  }

  private static void alarmLine(Check c) {
    c.sentence(7, "BAD (WANTS: 0 .. 65535); ROOM.");
    AlarmGroups none = new AlarmGroups();
    none.line(0, 0);
    c.due("LINE 0 of THE DRAFT", none.alarm(0, 0, 0, 0, 1), BAD);
    AlarmGroups x = lines(40);
    c.each("alarm, LINE", n -> x.alarm(n, 0, 0, 0, 1), BAD, LEAST, -1, 40, GREATEST);
    c.due("none came", x.count(2), 0);
    c.due("LINE 0", x.alarm(0, 0, 0, 0, 1), 0);
    c.due("LINE 39", x.alarm(39, 0, 0, 0, 1), 1);
    c.due("its LINE", x.of(1, 0), 39);
    x.build();
    c.due("of a NOW without LINES", x.alarm(0, 0, 0, 0, 1), BAD);
  }

  private static void alarmKind(Check c) {
    c.sentence(0, "a KIND (0 .. 9)");
    AlarmGroups x = lines(1);
    c.each("alarm, KIND", n -> x.alarm(0, n, 0, 0, 1), BAD, LEAST, -1, 10, GREATEST);
    c.due("none came", x.count(2), 0);
    c.due("KIND 9", x.alarm(0, 9, 0, 0, 1), 0);
    c.due("KIND 0", x.alarm(0, 0, 0, 0, 1), 1);
    c.due("its KIND", x.of(0, 1), 9);
    c.due("its KIND", x.of(1, 1), 0);
  }

  private static void alarmWants(Check c) {
    c.sentence(7, "(WANTS: 0 .. 65535)");
    AlarmGroups x = lines(1);
    c.each("alarm, WANTS", n -> x.alarm(0, 0, n, 0, 1), BAD, LEAST, -1, 65536, 65536 | 1, GREATEST);
    c.due("none came", x.count(2), 0);
    c.due("WANTS 65535", x.alarm(0, 0, 65535, 0, 1), 0);
    c.due("its WANTS", x.of(0, 2), 65535);
    c.due("WANTS 0", x.alarm(0, 0, 0, 0, 1), 0);
    c.due("its WANTS", x.of(0, 2), 0);
  }

  private static void alarmOdds(Check c) {
    c.sentence(0, "ODDS p of q (q 1 .. 1000, p 0 .. q)");
    AlarmGroups x = lines(1);
    c.each("0 of n", n -> x.alarm(0, 0, 0, 0, n), BAD, LEAST, -1, 0, 1001, GREATEST);
    c.each("n of n", n -> x.alarm(0, 0, 0, n, n), BAD, LEAST, -1, 0, 1001, GREATEST);
    c.each("n of 1", n -> x.alarm(0, 0, 0, n, 1), BAD, LEAST, -1, 2, 1000, GREATEST);
    c.each("n of 500", n -> x.alarm(0, 0, 0, n, 500), BAD, LEAST, -1, 501, 1000, GREATEST);
    c.each("n of 1000", n -> x.alarm(0, 0, 0, n, 1000), BAD, LEAST, -1, 1001, GREATEST);
    c.due("none came", x.count(2), 0);
    int[][] fine = {{0, 1}, {1, 1}, {0, 1000}, {1000, 1000}, {999, 1000}, {500, 500}};
    for (int[] odds : fine) {
      c.due(odds[0] + " of " + odds[1], x.alarm(0, 0, 0, odds[0], odds[1]), 0);
      c.due("its p", x.of(0, 8), odds[0]);
      c.due("its q", x.of(0, 9), odds[1]);
    }
  }

  private static AlarmGroups full() {
    AlarmGroups x = lines(6);
    for (int i = 0; i < 50; i++) {
      x.alarm(i / 10, i % 10, 1, 1, 2);
    }
    return x;
  }

  private static void alarmRoom(Check c) {
    c.sentence(0, "ALARMS, 50 at most, are numbered as they come.");
    AlarmGroups x = lines(6);
    for (int i = 0; i < 50; i++) {
      c.due("alarm " + i, x.alarm(i / 10, i % 10, 1, 1, 2), i);
    }
    c.due("alarm 50", x.alarm(5, 0, 1, 1, 2), ROOM);
    c.due("BAD ahead of ROOM, LINE", x.alarm(6, 0, 1, 1, 2), BAD);
    c.due("BAD ahead of ROOM, KIND", x.alarm(5, 10, 1, 1, 2), BAD);
    c.due("BAD ahead of ROOM, WANTS", x.alarm(5, 0, 65536, 1, 2), BAD);
    c.due("BAD ahead of ROOM, p", x.alarm(5, 0, 1, 3, 2), BAD);
    c.due("BAD ahead of ROOM, q", x.alarm(5, 0, 1, 0, 0), BAD);
    c.due("50 of them", x.count(2), 50);
    c.due("of(49, 0)", x.of(49, 0), 4);
    c.due("of(50, 0)", x.of(50, 0), BAD);
    x.build();
    Check.lines(x, 6);
    x.build();
    c.due("those that are GONE count", x.alarm(0, 0, 1, 1, 2), ROOM);
  }

  private static void fullButThere(Check c) {
    c.sentence(7, "ROOM.");
    AlarmGroups x = full();
    c.due("one that is TOLD", x.alarm(4, 9, 2, 3, 4), 49);
    c.due("its WANTS", x.of(49, 2), 2);
    Check.lines(x, 6);
    x.build();
    c.due("one that is CARRIED", x.alarm(0, 0, 4, 5, 6), 0);
    c.due("it is TOLD", x.of(0, 3), TOLD);
    c.due("its p", x.of(0, 8), 5);
    c.due("a new one", x.alarm(5, 0, 1, 1, 2), ROOM);
  }

  private static void numbered(Check c) {
    c.sentence(7, "An ALARM is told: its number.");
    AlarmGroups x = lines(3);
    c.due("the first", x.alarm(2, 1, 0, 0, 1), 0);
    c.due("another LINE", x.alarm(0, 1, 0, 0, 1), 1);
    c.due("another KIND", x.alarm(2, 0, 0, 0, 1), 2);
    c.due("the first again", x.alarm(2, 1, 0, 0, 1), 0);
    c.due("a BAD one takes no number", x.alarm(3, 0, 0, 0, 1), BAD);
    c.due("the next", x.alarm(1, 1, 0, 0, 1), 3);
  }

  private static void carried(Check c) {
    c.sentence(0, "With a new BUILD each TOLD one is CARRIED, its LINE its PARTNER");
    AlarmGroups x = Check.built(0, 5, 1, 6);
    x.alarm(0, 3, 7, 2, 9);
    x.alarm(1, 4, 8, 1, 9);
    Check.build(x, 1, 6, 0, 1, 0, 5);
    int[][] due = {{2, 3, 7, CARRIED, 0, NONE, NONE, 1, 2, 9}, {0, 4, 8, CARRIED, 0, NONE, NONE, 1, 1, 9}};
    for (int a = 0; a < 2; a++) {
      for (int what = 0; what < 10; what++) {
        c.due("of(" + a + ", " + what + ")", x.of(a, what), due[a][what]);
      }
    }
  }

  private static void goneWithItsLine(Check c) {
    c.sentence(0, "one whose LINE has none is GONE");
    AlarmGroups x = Check.built(0, 5);
    x.alarm(0, 3, 7, 2, 9);
    Check.build(x, 0, 4, 1, 5);
    c.due("STATE", x.of(0, 3), GONE);
    c.due("LINE", x.of(0, 0), NONE);
    Check.build(x, 0, 5);
    c.due("its MARK is there again: STATE", x.of(0, 3), GONE);
    c.due("a new one comes there", x.alarm(0, 3, 7, 2, 9), 1);
    c.due("GONE stays GONE", x.of(0, 3), GONE);
  }

  private static void goneFromCarried(Check c) {
    c.sentence(0, "and one that was CARRIED.");
    AlarmGroups x = Check.built(0, 5);
    x.alarm(0, 3, 7, 2, 9);
    Check.build(x, 0, 5);
    c.due("CARRIED", x.of(0, 3), CARRIED);
    Check.build(x, 0, 5);
    c.due("GONE, though its LINE has a PARTNER", x.of(0, 3), GONE);
    c.due("LINE", x.of(0, 0), NONE);
    c.due("a new one comes there", x.alarm(0, 3, 7, 2, 9), 1);
  }

  private static void toldAgain(Check c) {
    c.sentence(0, "An ALARM told of a LINE and KIND is the one that is CARRIED or TOLD there of that KIND"
        + " (TOLD then, with WANTS and ODDS as they are told now); if there is none, a new one.");
    AlarmGroups x = Check.built(0, 5, 0, 6);
    x.alarm(0, 3, 7, 2, 9);
    Check.build(x, 0, 6, 0, 5);
    c.due("its LINE has no PARTNER", x.of(0, 0), NONE);
    x.alarm(0, 3, 1, 1, 2);
    Check.build(x, 0, 7, 0, 6);
    c.due("CARRIED to LINE 1", x.of(1, 0), 1);
    c.due("of another KIND: a new one", x.alarm(1, 4, 0, 0, 1), 2);
    c.due("of another LINE: a new one", x.alarm(0, 3, 0, 0, 1), 3);
    c.due("CARRIED still", x.of(1, 3), CARRIED);
    c.due("that one", x.alarm(1, 3, 65535, 1000, 1000), 1);
    int[] due = {1, 3, 65535, TOLD, 0, NONE, NONE, 2, 1000, 1000};
    for (int what = 0; what < 10; what++) {
      c.due("of(1, " + what + ")", x.of(1, what), due[what]);
    }
    c.due("that one, TOLD", x.alarm(1, 3, 0, 0, 1), 1);
    c.due("WANTS as they are told now", x.of(1, 2), 0);
    c.due("p as it is told now", x.of(1, 8), 0);
    c.due("q as it is told now", x.of(1, 9), 1);
  }

  private static void ofAlarm(Check c) {
    c.sentence(8, "Of an ALARM: 0 LINE, 1 KIND, 2 WANTS, 3 STATE");
    AlarmGroups x = lines(1);
    c.each("of(n, 0), without one", n -> x.of(n, 0), BAD, LEAST, -1, 0, GREATEST);
    x.alarm(0, 0, 0, 0, 1);
    c.each("of(n, 0)", n -> x.of(n, 0), BAD, LEAST, -1, 1, 50, GREATEST);
    c.due("of(0, 0)", x.of(0, 0), 0);
  }

  private static void ofWhat(Check c) {
    c.sentence(8, "8 p, 9 q. BAD.");
    AlarmGroups x = lines(1);
    x.alarm(0, 1, 2, 3, 4);
    c.each("of(0, n)", n -> x.of(0, n), BAD, LEAST, -2, -1, 10, GREATEST);
    int[] due = {0, 1, 2, TOLD, 0, NONE, NONE, 1, 3, 4};
    for (int what = 0; what < 10; what++) {
      c.due("of(0, " + what + ")", x.of(0, what), due[what]);
    }
    c.each("of(1, n)", n -> x.of(1, n), BAD, 0, 9, 10);
  }

  private static void ofOfGone(Check c) {
    c.sentence(0, "2 GONE (its LINE is NONE then)");
    AlarmGroups x = lines(1);
    Check.pattern(x, 5, "**");
    Check.silence(x, "silence all;");
    x.alarm(0, 1, 2, 3, 4);
    c.due("TOLD: SILENCED by", x.of(0, 5), 0);
    c.due("TOLD: OWNER", x.of(0, 6), 5);
    Check.lines(x, 1);
    x.build();
    c.due("CARRIED: SILENCED by", x.of(0, 5), NONE);
    c.due("CARRIED: OWNER", x.of(0, 6), 5);
    Check.lines(x, 1);
    x.build();
    int[] due = {NONE, 1, 2, GONE, 0, NONE, NONE, 1, 3, 4};
    for (int what = 0; what < 10; what++) {
      c.due("of(0, " + what + ")", x.of(0, what), due[what]);
    }
  }

  private static void ofSilencedAndOwned(Check c) {
    c.sentence(8, "5 the SILENCE by which it is SILENCED (NONE), 6 the OWNER of its LINE's FILE (NONE)");
    AlarmGroups x = Check.built(5, 1, 0, 1);
    x.alarm(0, 0, 0, 0, 1);
    x.alarm(1, 0, 0, 0, 1);
    c.each("no SILENCE", a -> x.of(a, 5), NONE, 0, 1);
    c.each("no OWNER", a -> x.of(a, 6), NONE, 0, 1);
    Check.path(x, 5, "a");
    Check.pattern(x, 0, "a");
    c.due("OWNER 0, of FILE 5", x.of(0, 6), 0);
    c.due("no OWNER, of FILE 0", x.of(1, 6), NONE);
    Check.silence(x, "silence all;".repeat(11));
    c.each("SILENCE 0", a -> x.of(a, 5), 0, 0, 1);
    for (int k = 0; k < 11; k++) {
      x.lift(0);
    }
    Check.silence(x, "silence all kind 1;".repeat(8));
    Check.silence(x, "silence file 1;silence file 2;silence line 1 kind 1;silence file 5;");
    c.due("SILENCE 11", x.of(0, 5), 11);
    c.due("none", x.of(1, 5), NONE);
  }

  private static void ofClosed(Check c) {
    c.sentence(0, "An ALARM is CLOSED, if all that it WANTS is KNOWN.");
    AlarmGroups x = lines(1);
    x.alarm(0, 0, 0, 1, 2);
    x.alarm(0, 1, 65535, 1, 2);
    x.alarm(0, 2, 1 << 15, 1, 2);
    c.due("that WANTS nothing", x.of(0, 4), 1);
    for (int f = 0; f < 15; f++) {
      x.prove(f, true);
    }
    c.due("15 of 16", x.of(1, 4), 0);
    c.due("not the last", x.of(2, 4), 0);
    x.prove(15, true);
    c.due("16 of 16", x.of(1, 4), 1);
    c.due("the last", x.of(2, 4), 1);
    x.build();
    c.due("GONE, CLOSED", x.of(1, 4), 1);
    x.prove(0, false);
    c.due("GONE, not CLOSED", x.of(1, 4), 0);
  }

  private static void ofBuilds(Check c) {
    c.sentence(8, "7 how many BUILDS it is of");
    AlarmGroups x = new AlarmGroups();
    for (int b = 0; b < 12; b++) {
      Check.lines(x, 2);
      x.build();
      c.due("told in BUILD " + b, x.alarm(0, 0, 0, 0, 1), 0);
      c.due("told twice", x.alarm(0, 0, 0, 0, 1), 0);
      c.due("it is of " + (b + 1), x.of(0, 7), b + 1);
    }
    x.alarm(1, 0, 0, 0, 1);
    c.due("of the last only", x.of(1, 7), 1);
    c.due("a BUILD that is refused", x.build(), ROOM);
    c.due("12 still", x.of(0, 7), 12);
    AlarmGroups y = lines(1);
    y.alarm(0, 0, 0, 0, 1);
    Check.lines(y, 1);
    y.build();
    c.due("CARRIED is not of NOW", y.of(0, 7), 1);
    y.build();
    c.due("GONE", y.of(0, 7), 1);
  }

  private static void why(Check c) {
    c.sentence(9, "The i-th FACT, rising, that an ALARM WANTS and that is not KNOWN; i = -1: how many. BAD.");
    AlarmGroups x = lines(1);
    c.each("why(n, -1), without one", n -> x.why(n, -1), BAD, LEAST, -1, 0, GREATEST);
    x.alarm(0, 0, 0, 0, 1);
    c.due("of none", x.why(0, -1), 0);
    c.each("why(0, n), of none", n -> x.why(0, n), BAD, LEAST, -2, 0, GREATEST);
    c.each("why(n, -1)", n -> x.why(n, -1), BAD, LEAST, -1, 1, GREATEST);
    c.each("why(1, n)", n -> x.why(1, n), BAD, -1, 0, 1);
    x.alarm(0, 0, 1 << 15, 0, 1);
    c.due("one", x.why(0, -1), 1);
    c.due("the last FACT", x.why(0, 0), 15);
    c.due("behind it", x.why(0, 1), BAD);
    x.prove(15, true);
    c.due("KNOWN", x.why(0, -1), 0);
    c.due("none is left", x.why(0, 0), BAD);
  }

  private static void whyFull(Check c) {
    c.sentence(9, "rising");
    AlarmGroups x = lines(1);
    x.alarm(0, 0, 65535, 0, 1);
    c.due("how many", x.why(0, -1), 16);
    for (int i = 0; i < 16; i++) {
      c.due("why(0, " + i + ")", x.why(0, i), i);
    }
    c.each("why(0, n)", n -> x.why(0, n), BAD, LEAST, -2, 16, GREATEST);
    x.rule(0, 0);
    c.due("a RULE gives the first", x.why(0, -1), 15);
    c.due("the first that is left", x.why(0, 0), 1);
    c.due("the last that is left", x.why(0, 14), 15);
    c.due("behind it", x.why(0, 15), BAD);
    x.build();
    c.due("of a GONE one", x.why(0, -1), 15);
  }
}
