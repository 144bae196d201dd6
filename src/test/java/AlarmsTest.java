/** Promises 7 to 9: alarm, of, why. */
public final class AlarmsTest {
  public static void main(String[] args) {
    Check c = new Check();
    alarmBad(c);
    alarmRoom(c);
    states(c);
    of(c);
    why(c);
    c.end();
  }

  private static void alarmBad(Check c) {
    AlarmGroups x = new AlarmGroups();
    c.due("without a BUILD", x.alarm(0, 0, 0, 0, 1), -2);
    Check.build(x, 0, 1, 0, 2);
    c.due("line 2", x.alarm(2, 0, 0, 0, 1), -2);
    c.due("line -1", x.alarm(-1, 0, 0, 0, 1), -2);
    c.due("kind 10", x.alarm(0, 10, 0, 0, 1), -2);
    c.due("kind -1", x.alarm(0, -1, 0, 0, 1), -2);
    c.due("wants 65536", x.alarm(0, 0, 65536, 0, 1), -2);
    c.due("wants -1", x.alarm(0, 0, -1, 0, 1), -2);
    c.due("q 0", x.alarm(0, 0, 0, 0, 0), -2);
    c.due("q 1001", x.alarm(0, 0, 0, 0, 1001), -2);
    c.due("q -1", x.alarm(0, 0, 0, -1, -1), -2);
    c.due("p -1", x.alarm(0, 0, 0, -1, 1), -2);
    c.due("p 2 of 1", x.alarm(0, 0, 0, 2, 1), -2);
    c.due("none came", x.count(2), 0);
    c.due("the edges", x.alarm(1, 9, 65535, 1000, 1000), 0);
    c.due("the other edges", x.alarm(0, 0, 0, 0, 1), 1);
    c.due("p", x.of(0, 8), 1000);
    c.due("BAD changes nothing", x.alarm(1, 9, 1, 5, 4), -2);
    c.due("p", x.of(0, 8), 1000);
    c.due("WANTS", x.of(0, 2), 65535);
  }

  private static void alarmRoom(Check c) {
    AlarmGroups x = new AlarmGroups();
    for (int i = 0; i < 6; i++) {
      x.line(0, i);
    }
    x.build();
    for (int i = 0; i < 50; i++) {
      c.due("alarm " + i, x.alarm(i / 10, i % 10, 0, 1, 2), i);
    }
    c.due("alarm 50", x.alarm(5, 0, 0, 1, 2), -4);
    c.due("BAD ahead of ROOM", x.alarm(6, 0, 0, 1, 2), -2);
    c.due("one that is there", x.alarm(4, 9, 3, 2, 3), 49);
    c.due("its WANTS", x.of(49, 2), 3);
    c.due("count(2)", x.count(2), 50);
    Check.build(x, 0, 100);
    c.due("GONE ones are counted", x.alarm(0, 0, 0, 1, 2), -4);
    c.due("of(49, 3)", x.of(49, 3), 2);
  }

  private static void states(Check c) {
    AlarmGroups x = new AlarmGroups();
    Check.build(x, 0, 1, 0, 2, 0, 3);
    x.alarm(0, 1, 1, 1, 2);
    x.alarm(1, 1, 1, 1, 2);
    x.alarm(1, 2, 1, 1, 2);
    x.alarm(2, 1, 1, 1, 2);
    Check.build(x, 0, 0, 0, 1, 0, 2);
    int[] lines = {1, 2, 2, -1};
    int[] states = {1, 1, 1, 2};
    for (int a = 0; a < 4; a++) {
      c.due("carried: LINE of " + a, x.of(a, 0), lines[a]);
      c.due("carried: STATE of " + a, x.of(a, 3), states[a]);
    }
    c.due("told again", x.alarm(2, 2, 6, 3, 4), 2);
    c.due("TOLD", x.of(2, 3), 0);
    c.due("WANTS of now", x.of(2, 2), 6);
    c.due("p of now", x.of(2, 8), 3);
    c.due("q of now", x.of(2, 9), 4);
    c.due("the other KIND stays CARRIED", x.of(1, 3), 1);
    c.due("a new one of another KIND", x.alarm(2, 3, 0, 0, 1), 4);
    c.due("a new one of another LINE", x.alarm(0, 1, 0, 0, 1), 5);
    Check.build(x, 0, 0, 0, 1, 0, 2);
    c.due("CARRIED is GONE then, though its LINE has a PARTNER", x.of(0, 3), 2);
    c.due("its LINE", x.of(0, 0), -1);
    c.due("TOLD is CARRIED", x.of(2, 3), 1);
    c.due("there it is a new one", x.alarm(1, 1, 0, 0, 1), 6);
    c.due("GONE stays so", x.of(0, 3), 2);
    Check.build(x, 0, 0, 0, 1, 0, 2);
    c.due("GONE stays so, again", x.of(3, 3), 2);
  }

  private static void of(Check c) {
    AlarmGroups x = new AlarmGroups();
    Check.build(x, 2, 1, 3, 1);
    Check.path(x, 2, "a/b");
    Check.pattern(x, 7, "a/*");
    x.alarm(0, 4, 5, 2, 3);
    x.alarm(1, 5, 5, 2, 3);
    int[] due = {0, 4, 5, 0, 0, -1, 7, 1, 2, 3};
    for (int what = 0; what < 10; what++) {
      c.due("of(0, " + what + ")", x.of(0, what), due[what]);
    }
    c.due("of(0, 10)", x.of(0, 10), -2);
    c.due("of(0, -1)", x.of(0, -1), -2);
    c.due("of(2, 0)", x.of(2, 0), -2);
    c.due("of(-1, 0)", x.of(-1, 0), -2);
    c.due("no OWNER", x.of(1, 6), -1);
    x.prove(0, true);
    c.due("CLOSED?", x.of(0, 4), 0);
    x.prove(2, true);
    c.due("CLOSED", x.of(0, 4), 1);
    Check.silence(x, "silence line 1; silence all kind 4;");
    c.due("SILENCED by", x.of(0, 5), 1);
    c.due("SILENCED by", x.of(1, 5), 0);
    Check.build(x, 2, 1);
    c.due("CARRIED is not SILENCED", x.of(0, 5), -1);
    c.due("CARRIED has an OWNER", x.of(0, 6), 7);
    c.due("CARRIED is of one BUILD", x.of(0, 7), 1);
    c.due("CARRIED may be CLOSED", x.of(0, 4), 1);
    c.due("GONE has no OWNER", x.of(1, 6), -1);
    c.due("GONE has no LINE", x.of(1, 0), -1);
    c.due("GONE keeps its KIND", x.of(1, 1), 5);
    c.due("GONE is of one BUILD", x.of(1, 7), 1);
    x.alarm(0, 4, 0, 1, 1);
    c.due("of two BUILDS", x.of(0, 7), 2);
    Check.build(x);
    c.due("of two BUILDS still", x.of(0, 7), 2);
  }

  private static void why(Check c) {
    AlarmGroups x = new AlarmGroups();
    Check.build(x, 0, 1);
    x.alarm(0, 0, 1 << 15 | 1 << 7 | 1 << 3 | 1, 1, 2);
    c.due("why(0, -1)", x.why(0, -1), 4);
    int[] due = {0, 3, 7, 15, -2};
    for (int i = 0; i < 5; i++) {
      c.due("why(0, " + i + ")", x.why(0, i), due[i]);
    }
    c.due("why(0, -2)", x.why(0, -2), -2);
    c.due("why(1, -1)", x.why(1, -1), -2);
    c.due("why(-1, -1)", x.why(-1, -1), -2);
    x.rule(1 << 4, 3);
    x.prove(4, true);
    c.due("what RULES give is KNOWN", x.why(0, -1), 3);
    c.due("why(0, 1)", x.why(0, 1), 7);
    Check.build(x);
    c.due("of a GONE one, too", x.why(0, -1), 3);
  }
}
