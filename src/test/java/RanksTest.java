/** Promises 24 to 28: rank, budget, chosen, compare, trend. */
public final class RanksTest {
  public static void main(String[] args) {
    Check c = new Check();
    rank(c);
    fullRank(c);
    budget(c);
    chosenStays(c);
    compare(c);
    trend(c);
    c.end();
  }

  private static void rank(Check c) {
    AlarmGroups x = new AlarmGroups();
    Check.build(x, 0, 1, 0, 2, 0, 3, 0, 4);
    x.alarm(3, 0, 1, 1, 2);
    x.alarm(1, 5, 1, 333, 1000);
    x.alarm(1, 4, 1, 1, 3);
    x.alarm(1, 3, 1, 334, 1000);
    x.alarm(2, 9, 1, 500, 1000);
    x.alarm(2, 1, 1, 2, 4);
    x.alarm(0, 0, 1, 0, 7);
    x.alarm(0, 1, 1, 0, 1000);
    x.alarm(0, 2, 1, 998, 999);
    x.alarm(0, 3, 1, 999, 1000);
    x.alarm(1, 0, 0, 1, 1);
    int[] due = {9, 8, 5, 4, 0, 3, 2, 1, 6, 7, -1};
    for (int k = 0; k < due.length; k++) {
      c.due("rank(" + k + ")", x.rank(k), due[k]);
    }
    c.due("rank(-1)", x.rank(-1), -2);
    c.due("rank(min)", x.rank(Integer.MIN_VALUE), -2);
    c.due("rank(max)", x.rank(Integer.MAX_VALUE), -1);
    c.due("count(8)", x.count(8), 10);
    Check.silence(x, "silence line 0;");
    c.due("SILENCED ones are not there", x.rank(0), 5);
    Check.build(x, 0, 1, 0, 2, 0, 3, 0, 4);
    c.due("CARRIED ones are not there", x.rank(0), -1);
  }

  private static void fullRank(Check c) {
    AlarmGroups x = new AlarmGroups();
    Check.build(x, 0, 1, 0, 2, 0, 3, 0, 4, 0, 5);
    for (int i = 0; i < 50; i++) {
      x.alarm(i / 10, i % 10, 1, i, 1000);
    }
    for (int k = 0; k < 50; k++) {
      c.due("full rank(" + k + ")", x.rank(k), 49 - k);
    }
    c.due("rank(50)", x.rank(50), -1);
    c.due("budget(50, 50)", x.budget(50, 50), 50);
    c.due("chosen(49)", x.chosen(49), 0);
    c.due("chosen(50)", x.chosen(50), -1);
  }

  private static void budget(Check c) {
    AlarmGroups x = new AlarmGroups();
    Check.build(x, 0, 1, 0, 2, 1, 3, 5, 4);
    x.alarm(0, 0, 1, 9, 10);
    x.alarm(0, 1, 1, 8, 10);
    x.alarm(1, 0, 1, 7, 10);
    x.alarm(2, 0, 1, 6, 10);
    x.alarm(3, 0, 1, 5, 10);
    x.alarm(3, 1, 0, 10, 10);
    c.due("budget(-1, 0)", x.budget(-1, 0), -2);
    c.due("budget(0, -1)", x.budget(0, -1), -2);
    c.due("budget(51, 1)", x.budget(51, 1), -2);
    c.due("budget(1, 51)", x.budget(1, 51), -2);
    c.due("chosen(0), no budget yet", x.chosen(0), -1);
    check(c, x, 50, 50, 0, 1, 2, 3, 4);
    check(c, x, 5, 1, 0, 3, 4);
    check(c, x, 3, 2, 0, 1, 3);
    check(c, x, 2, 1, 0, 3);
    check(c, x, 0, 50);
    check(c, x, 50, 0);
    c.due("chosen(-1)", x.chosen(-1), -2);
  }

  private static void check(Check c, AlarmGroups x, int n, int m, int... due) {
    String call = "budget(" + n + ", " + m + ")";
    c.due(call, x.budget(n, m), due.length);
    for (int i = 0; i < due.length; i++) {
      c.due(call + ", chosen(" + i + ")", x.chosen(i), due[i]);
    }
    c.due(call + ", behind the last", x.chosen(due.length), -1);
  }

  private static void chosenStays(Check c) {
    AlarmGroups x = new AlarmGroups();
    Check.build(x, 0, 1);
    x.alarm(0, 3, 1, 1, 2);
    x.alarm(0, 2, 1, 1, 2);
    check(c, x, 2, 2, 1, 0);
    x.prove(0, true);
    c.due("rank(0)", x.rank(0), -1);
    x.out();
    c.due("chosen(0) stays", x.chosen(0), 1);
    c.due("budget(51, 51)", x.budget(51, 51), -2);
    Check.build(x);
    c.due("chosen(1) stays", x.chosen(1), 0);
    check(c, x, 2, 2);
  }

  private static void compare(Check c) {
    AlarmGroups x = new AlarmGroups();
    Check.build(x, 0, 1, 0, 2, 0, 3);
    x.alarm(0, 0, 1, 1, 2);
    x.alarm(1, 0, 1, 1, 2);
    x.alarm(2, 0, 1, 1, 2);
    Check.build(x, 0, 1, 0, 2, 0, 3);
    x.alarm(0, 1, 1, 1, 2);
    x.alarm(2, 0, 1, 1, 2);
    x.alarm(1, 1, 1, 1, 2);
    c.due("new ones", x.compare(0, 1, 0, -1), 2);
    c.due("new one 0", x.compare(0, 1, 0, 0), 3);
    c.due("new one 1", x.compare(0, 1, 0, 1), 4);
    c.due("new one 2", x.compare(0, 1, 0, 2), -2);
    c.due("lost ones", x.compare(0, 1, 1, -1), 2);
    c.due("lost one 1", x.compare(0, 1, 1, 1), 1);
    c.due("of both", x.compare(0, 1, 2, -1), 1);
    c.due("of both, 0", x.compare(0, 1, 2, 0), 2);
    c.due("the other way", x.compare(1, 0, 0, -1), 2);
    c.due("the other way, 0", x.compare(1, 0, 0, 0), 0);
    c.due("with itself", x.compare(1, 1, 2, -1), 3);
    c.due("with itself, new ones", x.compare(1, 1, 0, -1), 0);
    c.due("i = -2", x.compare(0, 1, 0, -2), -2);
    c.due("what = 3", x.compare(0, 1, 3, -1), -2);
    c.due("what = -1", x.compare(0, 1, -1, -1), -2);
    c.due("first = 2", x.compare(2, 1, 0, -1), -2);
    c.due("second = 2", x.compare(1, 2, 0, -1), -2);
    c.due("first = -1", x.compare(-1, 1, 0, -1), -2);
    c.due("second = -1", x.compare(1, -1, 0, -1), -2);
    Check.build(x, 0, 2, 0, 3);
    c.due("CARRIED ones are not of NOW", x.compare(1, 2, 1, -1), 3);
    x.alarm(0, 1, 0, 1, 2);
    c.due("this one is", x.compare(1, 2, 2, 0), 4);
    c.due("what was stays", x.compare(0, 1, 2, 0), 2);
  }

  private static void trend(Check c) {
    AlarmGroups x = new AlarmGroups();
    Check.build(x, 0, 1, 0, 2, 0, 3);
    x.alarm(0, 0, 1, 1, 2);
    x.alarm(1, 0, 2, 1, 2);
    x.alarm(1, 1, 4, 1, 2);
    x.alarm(2, 0, 8, 1, 2);
    x.prove(0, true);
    x.prove(1, true);
    Check.silence(x, "silence lines 1 to 2 kind 0 until 0;");
    trendIs(c, x, 0, 4, 2, 2, 1);
    c.due("trend(0, 4)", x.trend(0, 4), -2);
    c.due("trend(0, -1)", x.trend(0, -1), -2);
    c.due("trend(1, 0)", x.trend(1, 0), -2);
    c.due("trend(-1, 0)", x.trend(-1, 0), -2);
    x.prove(1, false);
    trendIs(c, x, 0, 4, 1, 2, 1);
    Check.build(x, 0, 1, 0, 2, 0, 3);
    trendIs(c, x, 1, 0, 0, 0, 0);
    x.prove(2, true);
    x.lift(0);
    x.alarm(1, 0, 2, 1, 2);
    trendIs(c, x, 1, 1, 0, 0, 1);
    trendIs(c, x, 0, 4, 1, 2, 1);
    Check.build(x);
    trendIs(c, x, 0, 4, 1, 2, 1);
    trendIs(c, x, 1, 1, 0, 0, 1);
    trendIs(c, x, 2, 0, 0, 0, 0);
    for (int b = 3; b < 12; b++) {
      Check.build(x);
    }
    x.build();
    trendIs(c, x, 0, 4, 1, 2, 1);
    trendIs(c, x, 11, 0, 0, 0, 0);
  }

  private static void trendIs(Check c, AlarmGroups x, int build, int... due) {
    for (int what = 0; what < 4; what++) {
      c.due("trend(" + build + ", " + what + ")", x.trend(build, what), due[what]);
    }
  }
}
