/** Promises 2 and 3: feed, cut. */
public final class TextTest {
  public static void main(String[] args) {
    Check c = new Check();
    feed(c);
    feedRoom(c);
    bytesAreInOrder(c);
    cut(c);
    c.end();
  }

  private static void feed(Check c) {
    AlarmGroups x = new AlarmGroups();
    c.due("feed(0, 1)", x.feed(0, 1), -2);
    c.due("feed(9, 1)", x.feed(9, 1), -2);
    c.due("feed(-1, 1)", x.feed(-1, 1), -2);
    c.due("feed(min, 1)", x.feed(Integer.MIN_VALUE, 1), -2);
    c.due("feed(max, 1)", x.feed(Integer.MAX_VALUE, 1), -2);
    c.due("count(6)", x.count(6), 0);
    c.due("feed(1, -1)", x.feed(1, -1), 1);
    c.due("feed(8, -1)", x.feed(8, -1), 9);
    c.due("count(6)", x.count(6), 9);
  }

  private static void feedRoom(Check c) {
    AlarmGroups x = new AlarmGroups();
    for (int i = 1; i <= 19; i++) {
      c.due("feed 8, time " + i, x.feed(8, 0), 8 * i);
    }
    c.due("feed(1) to 153", x.feed(1, 0), 153);
    c.due("feed(8) over 160", x.feed(8, 0), -4);
    c.due("feed(9) is BAD ahead of ROOM", x.feed(9, 0), -2);
    c.due("nothing came", x.count(6), 153);
    c.due("feed(7) to 160", x.feed(7, 0), 160);
    c.due("feed(1) over 160", x.feed(1, 0), -4);
    c.due("feed(0) when full", x.feed(0, 0), -2);
    c.due("count(6)", x.count(6), 160);
    c.due("cut(160)", x.cut(160), 0);
    c.due("cut(159)", x.cut(159), 1);
    c.due("feed(2)", x.feed(2, 0), -4);
    c.due("feed(1)", x.feed(1, 0), 160);
  }

  private static void bytesAreInOrder(Check c) {
    AlarmGroups x = new AlarmGroups();
    // of w only the n lowest bytes, the highest of them first: "ab", then "c"
    x.feed(2, 0x7A7A6162L);
    x.feed(1, 0x7A63L);
    x.path(0);
    Check.pattern(x, 7, "abc");
    c.due("the path is abc", x.owner(0), 7);
    x.feed(8, 0x6162636465666768L);
    x.path(1);
    Check.pattern(x, 8, "abcdefgh");
    c.due("the path is abcdefgh", x.owner(1), 8);
    // a byte above 127 can't stand in a PATH
    x.feed(3, 0x61E162L);
    c.due("byte 225", x.path(2), -11);
  }

  private static void cut(Check c) {
    AlarmGroups x = new AlarmGroups();
    c.due("cut(0) of none", x.cut(0), 0);
    c.due("cut(1) of none", x.cut(1), -2);
    Check.say(x, "abcdefgh/jk");
    c.due("cut(-1)", x.cut(-1), -2);
    c.due("cut(12)", x.cut(12), -2);
    c.due("cut(max)", x.cut(Integer.MAX_VALUE), -2);
    c.due("cut(min)", x.cut(Integer.MIN_VALUE), -2);
    c.due("count(6)", x.count(6), 11);
    c.due("cut(11)", x.cut(11), 0);
    c.due("cut(8)", x.cut(8), 3);
    c.due("count(6)", x.count(6), 8);
    c.due("cut(3)", x.cut(3), 5);
    x.path(0);
    Check.pattern(x, 2, "abc");
    c.due("the first ones stay", x.owner(0), 2);
  }
}
