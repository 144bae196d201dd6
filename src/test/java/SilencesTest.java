/** Promises 16 to 20: silence, silent, held, reason, lift. */
public final class SilencesTest {
  public static void main(String[] args) {
    Check c = new Check();
    texts(c);
    faults(c);
    withoutABuild(c);
    textIsTaken(c);
    room(c);
    silent(c);
    firstThatHolds(c);
    heldAndPartners(c);
    untilEnds(c);
    reason(c);
    lift(c);
    c.end();
  }

  private static AlarmGroups three() {
    AlarmGroups x = new AlarmGroups();
    Check.build(x);
    Check.build(x);
    Check.build(x, 0, 1, 0, 2, 1, 3, 5, 4);
    return x;
  }

  private static void fine(Check c, String text, int due) {
    AlarmGroups x = three();
    c.due(text, Check.silence(x, text), due);
    c.due(text + " (count)", x.count(4), due);
  }

  private static void fault(Check c, String text, int place) {
    AlarmGroups x = three();
    c.due(text, Check.silence(x, text), -10 - place);
    c.due(text + " (count)", x.count(4), 0);
    c.due(text + " (taken)", x.count(6), 0);
  }

  private static void texts(Check c) {
    fine(c, "silence all;", 1);
    fine(c, "  silence  all  ;  ", 1);
    fine(c, "silence line3;", 1);
    fine(c, "silence lines0to3kind9until11because'';", 1);
    fine(c, "silence lines 2 to 2;silence file 5;silence all ;", 3);
    fine(c, "silence file 000005 until 000002;", 1);
    fine(c, "silence all kind 0 because 'a; silence all;';", 1);
    fine(c, "silence all because '12345678901234567890';", 1);
    fine(c, "silence all because 'x'; silence all until 2;", 2);
  }

  private static void faults(Check c) {
    fault(c, "", 0);
    fault(c, "   ", 3);
    fault(c, ";", 0);
    fault(c, "silences all;", 0);
    fault(c, "xilence all;", 0);
    fault(c, "silencz all;", 0);
    fault(c, "silence azz;", 8);
    fault(c, "silence", 7);
    fault(c, "silence  ", 9);
    fault(c, "silence all", 11);
    fault(c, "silence all  ", 13);
    fault(c, "silence all; x", 13);
    fault(c, "silence all;;", 12);
    fault(c, "silence kind 3;", 8);
    fault(c, "silence every;", 8);
    fault(c, "silence allkind 3;", 8);
    fault(c, "silence 'all';", 8);
    fault(c, "silence line;", 12);
    fault(c, "silence line 4;", 13);
    fault(c, "silence line 0000000;", 13);
    fault(c, "silence line 999999;", 13);
    fault(c, "silence lines 1;", 15);
    fault(c, "silence lines 1 until 2;", 16);
    fault(c, "silence lines 4 to 2;", 14);
    fault(c, "silence lines 2 to 1;", 19);
    fault(c, "silence lines 2 to 4;", 19);
    fault(c, "silence line 1 to 2;", 15);
    fault(c, "silence file 6;", 13);
    fault(c, "silence file x;", 13);
    fault(c, "silence all 1;", 12);
    fault(c, "silence all kind 10;", 17);
    fault(c, "silence all kind kind;", 17);
    fault(c, "silence all kind 1 kind 2;", 19);
    fault(c, "silence all until 12;", 18);
    fault(c, "silence all until 1;", 18);
    fault(c, "silence all until 2 kind 1;", 20);
    fault(c, "silence all because 'x' until 2;", 24);
    fault(c, "silence all because x;", 20);
    fault(c, "silence all because ;", 20);
    fault(c, "silence all because", 19);
    fault(c, "silence all because 'x;", 20);
    fault(c, "silence all because '123456789012345678901';", 20);
    fault(c, "silence all because 'a\tb';", 20);
    fault(c, "silence all because 'a\u007fb';", 20);
    fault(c, "silence all because 'a\u00ffb';", 20);
    fault(c, "silence all because 'x''y';", 23);
    fault(c, "silence all 'x';", 12);
    fault(c, "Silence all;", 0);
    fault(c, "silence ALL;", 8);
    fault(c, "silence all\n;", 11);
    fault(c, "silence all\u0000;", 11);
    fault(c, "silence all, silence all;", 11);
    fault(c, "silence all;silence line 1;silence file 7;", 40);
    fault(c, "silence all kind -1;", 17);
    // the first fault counts, though what is no TOKEN follows
    fault(c, "silence line 9 1234567 '", 13);
  }

  private static void withoutABuild(Check c) {
    AlarmGroups x = new AlarmGroups();
    c.due("line 0", Check.silence(x, "silence line 0;"), -23);
    c.due("lines 0", Check.silence(x, "silence lines 0 to 0;"), -24);
    c.due("file, all", Check.silence(x, "silence file 0 until 0; silence all;"), 2);
    c.due("HOLDS", x.silent(0, 4), 1);
    c.due("held(0)", x.held(0), 0);
    c.due("held(1)", x.held(1), 0);
    Check.build(x, 1, 1, 0, 1, 0, 2);
    c.due("HOLDS", x.silent(0, 4), 1);
    c.due("held(0)", x.held(0), 6);
    c.due("held(1)", x.held(1), 7);
    AlarmGroups y = new AlarmGroups();
    Check.build(y);
    c.due("an empty BUILD", Check.silence(y, "silence line 0;"), -23);
  }

  private static void textIsTaken(Check c) {
    AlarmGroups x = three();
    Check.silence(x, "silence all;");
    c.due("taken", x.count(6), 0);
    Check.silence(x, "silence all");
    c.due("taken with a FAULT", x.count(6), 0);
    c.due("again", x.silence(), -10);
    c.due("one", x.count(4), 1);
  }

  private static void room(Check c) {
    AlarmGroups x = three();
    StringBuilder s = new StringBuilder();
    for (int i = 0; i < 13; i++) {
      s.append("silence all;");
    }
    c.due("13 in one text", Check.silence(x, s.toString()), -4);
    c.due("none came", x.count(4), 0);
    c.due("taken", x.count(6), 0);
    c.due("a FAULT ahead of ROOM", Check.silence(x, s + "x"), -166);
    c.due("12 in one text", Check.silence(x, s.substring(12)), 12);
    c.due("one more", Check.silence(x, "silence file 1;"), -4);
    c.due("still of all", x.silent(11, 2), 2);
    c.due("lift", x.lift(3), 11);
    c.due("two more", Check.silence(x, "silence file 1;silence file 2;"), -4);
    c.due("none of them came", x.count(4), 11);
    c.due("one more", Check.silence(x, "silence file 1;"), 12);
    c.due("it is the last", x.silent(11, 3), 1);
  }

  private static void silent(Check c) {
    AlarmGroups x = three();
    Check.silence(x, "silence lines 0 to 2 kind 7 until 5; silence file 5; silence all kind 0;");
    int[][] due = {{5, 7, 0, -1, 1, 0}, {-1, -1, 1, 5, 1, 0}, {-1, 0, 2, -1, 1, 0}};
    for (int k = 0; k < 3; k++) {
      for (int what = 0; what < 6; what++) {
        c.due("silent(" + k + ", " + what + ")", x.silent(k, what), due[k][what]);
      }
      c.due("silent(k, 6)", x.silent(k, 6), -2);
      c.due("silent(k, -1)", x.silent(k, -1), -2);
    }
    c.due("silent(3, 0)", x.silent(3, 0), -2);
    c.due("silent(-1, 0)", x.silent(-1, 0), -2);
  }

  private static void firstThatHolds(Check c) {
    AlarmGroups x = three();
    x.alarm(0, 1, 1, 1, 2);
    x.alarm(0, 2, 1, 1, 2);
    x.alarm(2, 1, 0, 1, 2);
    x.alarm(3, 1, 1, 1, 2);
    c.due("OPEN ones", x.count(8), 3);
    Check.silence(x, "silence lines 0 to 1 kind 2; silence file 1; silence lines 0 to 2;");
    int[] by = {2, 0, 1, -1};
    for (int a = 0; a < 4; a++) {
      c.due("of(" + a + ", 5)", x.of(a, 5), by[a]);
    }
    for (int k = 0; k < 3; k++) {
      c.due("silent(" + k + ", 5)", x.silent(k, 5), 1);
    }
    c.due("OPEN ones", x.count(8), 1);
    Check.silence(x, "silence all;");
    c.due("of(3, 5)", x.of(3, 5), 3);
    c.due("of(0, 5)", x.of(0, 5), 2);
    c.due("OPEN ones", x.count(8), 0);
    x.lift(0);
    c.due("of(1, 5)", x.of(1, 5), 1);
    c.due("silent(1, 5)", x.silent(1, 5), 2);
    c.due("of(2, 5)", x.of(2, 5), 0);
  }

  private static void heldAndPartners(Check c) {
    AlarmGroups x = new AlarmGroups();
    for (int i = 0; i < 40; i++) {
      x.line(i % 2, i);
    }
    x.build();
    Check.silence(x, "silence line 39; silence lines 0 to 39; silence file 1; silence file 2; silence all;");
    long whole = (1L << 40) - 1;
    long odd = 0xAAAAAAAAAAL;
    long[] due = {1L << 39, whole, odd, 0, whole};
    for (int k = 0; k < 5; k++) {
      c.due("held(" + k + ")", x.held(k), due[k]);
    }
    c.due("held(5)", x.held(5), -2);
    c.due("held(-1)", x.held(-1), -2);
    // 39 and 1 stay in FILE 1, 2 is now in another FILE
    Check.build(x, 1, 1, 1, 77, 1, 39, 1, 2);
    long[] then = {4, 5, 15, 0, 15};
    for (int k = 0; k < 5; k++) {
      c.due("then held(" + k + ")", x.held(k), then[k]);
    }
    x.alarm(1, 0, 1, 1, 2);
    c.due("silent by the FILE", x.of(0, 5), 2);
    Check.build(x, 1, 1, 1, 77);
    c.due("39 goes", x.held(0), 0);
    c.due("1 stays, 77 does not come", x.held(1), 1);
    Check.build(x, 1, 39, 1, 1);
    c.due("what went does not come back", x.held(0), 0);
    c.due("1 moves", x.held(1), 2);
    c.due("it is still there", x.count(4), 5);
    c.due("and HOLDS", x.silent(0, 4), 1);
    x.lift(2);
    x.lift(2);
    x.lift(2);
    x.alarm(0, 3, 1, 1, 2);
    x.alarm(1, 3, 1, 1, 2);
    c.due("alarms return there", x.of(1, 5), -1);
    c.due("the other is SILENCED", x.of(2, 5), 1);
  }

  private static void untilEnds(Check c) {
    AlarmGroups x = new AlarmGroups();
    Check.build(x, 0, 1);
    Check.silence(x, "silence line 0 until 1; silence all until 2;");
    int[] by = {0, 0, 1, -1};
    for (int b = 0; b < 4; b++) {
      if (b > 0) {
        Check.build(x, 0, 1);
      }
      x.alarm(0, 0, 1, 1, 2);
      c.due("by, in BUILD " + b, x.of(0, 5), by[b]);
      c.due("0 HOLDS, in BUILD " + b, x.silent(0, 4), b <= 1 ? 1 : 0);
      c.due("1 HOLDS, in BUILD " + b, x.silent(1, 4), b <= 2 ? 1 : 0);
      c.due("it has its LINES, in BUILD " + b, x.held(0), 1);
    }
    c.due("until stays", x.silent(0, 0), 1);
    c.due("until below NOW", Check.silence(x, "silence all until 2;"), -28);
    c.due("until NOW", Check.silence(x, "silence all until 3;"), 3);
  }

  private static void reason(Check c) {
    AlarmGroups x = three();
    Check.silence(x, "silence all because 'Its';silence all because ' 2345678901234567 ~\"';");
    c.holds("Its", Check.reason(x, 0).equals("Its"));
    c.holds("20 bytes", Check.reason(x, 1).equals(" 2345678901234567 ~\""));
    c.due("reason(1, -1)", x.reason(1, -1), 20);
    c.due("reason(1, 20)", x.reason(1, 20), -2);
    c.due("reason(0, 3)", x.reason(0, 3), -2);
    c.due("reason(0, -2)", x.reason(0, -2), -2);
    c.due("reason(2, -1)", x.reason(2, -1), -2);
    c.due("reason(-1, -1)", x.reason(-1, -1), -2);
    x.lift(0);
    x.lift(0);
    Check.silence(x, "silence all; silence all because '';");
    c.due("without", x.reason(0, -1), 0);
    c.due("without, byte 0", x.reason(0, 0), -2);
    c.due("empty", x.reason(1, -1), 0);
  }

  private static void lift(Check c) {
    AlarmGroups x = three();
    Check.silence(x, "silence file 0; silence file 1; silence file 2; silence line 3 kind 1 because 'x';");
    c.due("lift(4)", x.lift(4), -2);
    c.due("lift(-1)", x.lift(-1), -2);
    c.due("lift(1)", x.lift(1), 3);
    c.due("silent(1, 3)", x.silent(1, 3), 2);
    c.due("silent(2, 1)", x.silent(2, 1), 1);
    c.due("held(2)", x.held(2), 8);
    c.due("lift(2)", x.lift(2), 2);
    c.due("reason(2, -1)", x.reason(2, -1), -2);
    c.due("a new one", Check.silence(x, "silence line 0;"), 3);
    c.due("it is new: KIND", x.silent(2, 1), -1);
    c.due("it is new: LINES", x.held(2), 1);
    c.due("it is new: TEXT", x.reason(2, -1), 0);
    c.due("lift(0)", x.lift(0), 2);
    c.due("lift(0)", x.lift(0), 1);
    c.due("lift(0)", x.lift(0), 0);
    c.due("lift(0)", x.lift(0), -2);
    Check.silence(x, "silence file 1; silence file 2 because 'two'; silence file 3;");
    x.lift(0);
    Check.silence(x, "silence all kind 4;");
    int[] files = {2, 3, -1};
    for (int k = 0; k < 3; k++) {
      c.due("those behind are one less, what comes is apart: " + k, x.silent(k, 3), files[k]);
    }
    c.holds("its TEXT, too", Check.reason(x, 0).equals("two"));
  }
}
