/** Promises 4 to 6: line, build, partner. */
public final class BuildsTest {
  public static void main(String[] args) {
    Check c = new Check();
    line(c);
    build(c);
    partners(c);
    tieGoesBehindTheOlder(c);
    longestOfSeveral(c);
    filesAreApart(c);
    greatest(c);
    c.end();
  }

  private static void line(Check c) {
    AlarmGroups x = new AlarmGroups();
    c.due("line(6, 0)", x.line(6, 0), -2);
    c.due("line(-1, 0)", x.line(-1, 0), -2);
    c.due("line(min, 0)", x.line(Integer.MIN_VALUE, 0), -2);
    c.due("count(7)", x.count(7), 0);
    for (int i = 1; i <= 40; i++) {
      c.due("line " + i, x.line(i % 6, i == 3 ? Integer.MIN_VALUE : Integer.MAX_VALUE), i);
    }
    c.due("line 41", x.line(0, 0), -4);
    c.due("line(6) is BAD ahead of ROOM", x.line(6, 0), -2);
    c.due("count(7)", x.count(7), 40);
    c.due("build()", x.build(), 0);
    c.due("count(7)", x.count(7), 0);
    c.due("count(1)", x.count(1), 40);
    c.due("line again", x.line(5, 5), 1);
  }

  private static void build(Check c) {
    AlarmGroups x = new AlarmGroups();
    for (int b = 0; b < 12; b++) {
      x.line(0, b);
      c.due("build " + b, x.build(), b);
      c.due("builds", x.count(0), b + 1);
      c.due("lines of NOW", x.count(1), 1);
    }
    x.alarm(0, 1, 0, 1, 1);
    x.line(0, 5);
    x.line(1, 5);
    c.due("build 12", x.build(), -4);
    c.due("THE DRAFT stays", x.count(7), 2);
    c.due("NOW stays", x.count(1), 1);
    c.due("ALARMS stay", x.of(0, 3), 0);
    c.due("line comes still", x.line(0, 6), 3);
  }

  private static void partners(Check c) {
    AlarmGroups x = new AlarmGroups();
    Check.build(x, 0, 1, 0, 2, 0, 3, 0, 4);
    for (int i = 0; i < 4; i++) {
      c.due("first: partner(" + i + ")", x.partner(i), -1);
    }
    c.due("partner(4)", x.partner(4), -2);
    c.due("partner(-1)", x.partner(-1), -2);
    Check.build(x, 0, 9, 0, 2, 0, 8, 0, 4, 0, 1);
    int[] due = {-1, 1, -1, 3, -1};
    for (int i = 0; i < 5; i++) {
      c.due("second: partner(" + i + ")", x.partner(i), due[i]);
    }
    Check.build(x);
    c.due("empty: partner(0)", x.partner(0), -2);
    Check.build(x, 0, 9);
    c.due("behind an empty one: partner(0)", x.partner(0), -1);
  }

  private static void tieGoesBehindTheOlder(Check c) {
    AlarmGroups x = new AlarmGroups();
    Check.build(x, 0, 1, 0, 2);
    Check.build(x, 0, 2, 0, 1);
    // MOST of 1, 0 and of 0, 1 are both 1: behind p, so mark 2 is matched
    c.due("tie: partner(0)", x.partner(0), 1);
    c.due("tie: partner(1)", x.partner(1), -1);
    AlarmGroups y = new AlarmGroups();
    // first like ones are matched at once
    Check.build(y, 0, 5, 0, 5, 0, 6);
    Check.build(y, 0, 5, 0, 6, 0, 5);
    c.due("greedy: partner(0)", y.partner(0), 0);
    c.due("greedy: partner(1)", y.partner(1), 2);
    c.due("greedy: partner(2)", y.partner(2), -1);
    AlarmGroups z = new AlarmGroups();
    // behind q, where that is more
    Check.build(z, 0, 1, 0, 2, 0, 3);
    Check.build(z, 0, 4, 0, 1, 0, 2, 0, 3);
    for (int i = 0; i < 4; i++) {
      c.due("behind q: partner(" + i + ")", z.partner(i), i - 1);
    }
  }

  private static void longestOfSeveral(Check c) {
    AlarmGroups x = new AlarmGroups();
    // the longest is 2 3 4 1; both sides have to be gone behind more than once
    Check.build(x, 0, 1, 0, 9, 0, 2, 0, 3, 0, 8, 0, 4, 0, 1);
    Check.build(x, 0, 2, 0, 7, 0, 3, 0, 1, 0, 6, 0, 4, 0, 5, 0, 1);
    int[] due = {2, -1, 3, -1, -1, 5, -1, 6};
    for (int i = 0; i < due.length; i++) {
      c.due("longest: partner(" + i + ")", x.partner(i), due[i]);
    }
    AlarmGroups y = new AlarmGroups();
    // one like MARK at once would cost three
    Check.build(y, 0, 4, 0, 1, 0, 2, 0, 3);
    Check.build(y, 0, 1, 0, 2, 0, 3, 0, 4);
    for (int i = 0; i < 4; i++) {
      c.due("three: partner(" + i + ")", y.partner(i), i < 3 ? i + 1 : -1);
    }
    AlarmGroups z = new AlarmGroups();
    Check.build(z, 0, 1, 0, 2, 0, 3, 0, 4);
    Check.build(z, 0, 4, 0, 8, 0, 9, 0, 1, 0, 2, 0, 3);
    int[] three = {-1, -1, -1, 0, 1, 2};
    for (int i = 0; i < 6; i++) {
      c.due("three behind: partner(" + i + ")", z.partner(i), three[i]);
    }
  }

  private static void filesAreApart(Check c) {
    AlarmGroups x = new AlarmGroups();
    Check.build(x, 0, 1, 1, 1, 0, 2, 1, 2, 5, 7);
    Check.build(x, 1, 2, 0, 2, 1, 1, 0, 1, 4, 7, 5, 7);
    int[] due = {3, 2, -1, -1, -1, 4};
    for (int i = 0; i < 6; i++) {
      c.due("files: partner(" + i + ")", x.partner(i), due[i]);
    }
  }

  private static void greatest(Check c) {
    AlarmGroups x = new AlarmGroups();
    for (int b = 0; b < 2; b++) {
      for (int i = 0; i < 40; i++) {
        x.line(3, i % 3);
      }
      x.build();
    }
    for (int i = 0; i < 40; i++) {
      c.due("40: partner(" + i + ")", x.partner(i), i);
    }
    for (int i = 0; i < 40; i++) {
      x.line(3, 100 + i);
    }
    x.build();
    for (int i = 0; i < 40; i++) {
      c.due("40 others: partner(" + i + ")", x.partner(i), -1);
    }
  }
}
