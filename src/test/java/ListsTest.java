/** Promises 29 to 33: out, outByte, back, read, count. */
public final class ListsTest {
  public static void main(String[] args) {
    Check c = new Check();
    out(c);
    fullest(c);
    back(c);
    read(c);
    readFaults(c);
    count(c);
    c.end();
  }

  private static AlarmGroups some() {
    AlarmGroups x = new AlarmGroups();
    for (int i = 0; i < 12; i++) {
      x.line(0, i);
    }
    x.build();
    x.alarm(11, 3, 1, 10, 100);
    x.alarm(2, 9, 0, 0, 1);
    x.alarm(2, 1, 1, 7, 1000);
    x.alarm(0, 5, 1, 1000, 1000);
    return x;
  }

  private static final String SOME = "5@0 1000/1000;1@2 7/1000;9@2 0/1;3@11 10/100;";

  private static void out(Check c) {
    AlarmGroups x = some();
    c.due("OUT is not made yet", x.outByte(0), -1);
    c.due("count(9)", x.count(9), 0);
    c.holds("OUT is " + Check.outText(x), Check.outText(x).equals(SOME));
    c.due("outByte(-1)", x.outByte(-1), -1);
    c.due("outByte(length)", x.outByte(SOME.length()), -1);
    c.due("outByte(max)", x.outByte(Integer.MAX_VALUE), -1);
    c.due("outByte(min)", x.outByte(Integer.MIN_VALUE), -1);
    Check.silence(x, "silence all;");
    x.prove(0, true);
    c.holds("SILENCED and CLOSED ones are in it", Check.outText(x).equals(SOME));
    Check.build(x, 0, 0, 0, 2);
    c.due("OUT stays", x.outByte(0), '5');
    c.due("count(9)", x.count(9), SOME.length());
    c.due("CARRIED ones are not in it", x.out(), 0);
    c.due("outByte(0)", x.outByte(0), -1);
    x.alarm(1, 9, 0, 1, 2);
    c.holds("one", Check.outText(x).equals("9@1 1/2;"));
  }

  private static void fullest(Check c) {
    AlarmGroups x = new AlarmGroups();
    for (int i = 0; i < 40; i++) {
      x.line(0, i);
    }
    x.build();
    for (int i = 0; i < 50; i++) {
      x.alarm(39 - i / 10, 9 - i % 10, 0, 1000, 1000);
    }
    c.due("750 bytes", x.out(), 750);
    c.due("outByte(749)", x.outByte(749), ';');
    c.due("outByte(750)", x.outByte(750), -1);
    c.due("back(600, 150)", x.back(600, 150), 150);
    c.due("read()", x.read(), 10);
    c.due("back(590, 160)", x.back(590, 160), 160);
    c.due("back(0, 1)", x.back(0, 1), -4);
    c.due("back(750, 1)", x.back(750, 1), -2);
    c.due("read()", x.read(), -14);
  }

  private static void back(Check c) {
    AlarmGroups x = some();
    c.due("back(0, 1) of none", x.back(0, 1), -2);
    c.due("back(0, 0) of none", x.back(0, 0), 0);
    int n = x.out();
    c.due("back(-1, 1)", x.back(-1, 1), -2);
    c.due("back(0, -1)", x.back(0, -1), -2);
    c.due("back(0, n + 1)", x.back(0, n + 1), -2);
    c.due("back(n, 1)", x.back(n, 1), -2);
    c.due("back(1, max)", x.back(1, Integer.MAX_VALUE), -2);
    c.due("back(max, max)", x.back(Integer.MAX_VALUE, Integer.MAX_VALUE), -2);
    c.due("back(n + 1, 0)", x.back(n + 1, 0), -2);
    c.due("back(n, 0)", x.back(n, 0), 0);
    c.due("back(0, n)", x.back(0, n), n);
    c.due("back(14, 11)", x.back(14, 11), n + 11);
    c.due("read()", x.read(), 5);
    c.due("taken", x.count(6), 0);
    Check.say(x, "z".repeat(160 - n));
    c.due("back(0, n) to 160", x.back(0, n), 160);
    c.due("back(0, 0) when full", x.back(0, 0), 160);
    c.due("back(0, 1) when full", x.back(0, 1), -4);
    c.due("BAD ahead of ROOM", x.back(0, n + 1), -2);
    c.due("nothing came", x.count(6), 160);
    x.cut(159);
    c.due("back(0, 2)", x.back(0, 2), -4);
    c.due("nothing came", x.count(6), 159);
  }

  private static void read(Check c) {
    AlarmGroups x = some();
    c.due("of none", Check.read(x, ""), 0);
    c.due("all", Check.read(x, SOME), 4);
    c.due("in any order", Check.read(x, "3@11 10/100;5@0 1000/1000;"), 2);
    c.due("twice", Check.read(x, "9@2 0/1;9@2 0/1;"), 2);
    c.due("another p", Check.read(x, "9@2 1/1;"), 0);
    c.due("another q", Check.read(x, "9@2 0/2;"), 0);
    c.due("like ODDS are not just so", Check.read(x, "3@11 1/10;"), 0);
    c.due("another LINE", Check.read(x, "9@3 0/1;"), 0);
    c.due("another KIND", Check.read(x, "8@2 0/1;"), 0);
    c.due("numbers of 4 digits", Check.read(x, "9999@9999 9999/9999;9@2 0/1;"), 1);
    c.due("taken", x.count(6), 0);
    Check.build(x, 0, 0, 0, 1, 0, 2);
    c.due("a CARRIED one is not TOLD", Check.read(x, "9@2 0/1;"), 0);
    x.alarm(2, 9, 0, 0, 1);
    c.due("now it is", Check.read(x, "9@2 0/1;"), 1);
    c.due("without a BUILD", Check.read(new AlarmGroups(), "9@2 0/1;"), 0);
  }

  private static void readFaults(Check c) {
    String[] texts = {"1", "1@", "1@2", "1@2 ", "1@2 3", "1@2 3/", "1@2 3/4", "x", " 1@2 3/4;", "1 @2 3/4;", "1@ 2 3/4;",
        "1@2  3/4;", "1@2 3 /4;", "1@2 3/ 4;", "1@2 3/4 ;", "1@2 3/4; ", "1@2 3/4;;", "01@2 3/4;", "1@02 3/4;", "1@2 00/4;",
        "1@2 3/04;", "12345@2 3/4;", "1@12345 3/4;", "1@2 12345/4;", "1@2 3/12345;", "@2 3/4;", "1@2 3/4;1@2 3/4,",
        "-1@2 3/4;", "1@2 3/4;1\u00b2"};
    int[] place = {1, 2, 3, 4, 5, 6, 7, 0, 0, 1, 2, 4, 5, 6, 7, 8, 8, 1, 3, 5, 7, 4, 6, 8, 10, 0, 15, 0, 9};
    for (int i = 0; i < texts.length; i++) {
      AlarmGroups x = some();
      c.due("read " + texts[i], Check.read(x, texts[i]), -10 - place[i]);
      c.due("taken " + texts[i], x.count(6), 0);
    }
  }

  private static void count(Check c) {
    AlarmGroups x = some();
    Check.build(x, 0, 0, 0, 2, 0, 11);
    x.alarm(2, 3, 1, 1, 2);
    x.alarm(1, 9, 0, 1, 2);
    x.rule(1, 2);
    x.rule(1, 2);
    x.rule(1, 3);
    Check.silence(x, "silence line 0; silence file 4;");
    Check.pattern(x, 1, "a");
    Check.pattern(x, 1, "b");
    Check.pattern(x, 1, "c");
    Check.pattern(x, 1, "d");
    Check.say(x, "hello");
    x.line(0, 1);
    x.out();
    int[] due = {2, 3, 4, 3, 2, 4, 5, 1, 1, 16};
    for (int what = 0; what < 10; what++) {
      c.due("count(" + what + ")", x.count(what), due[what]);
    }
    c.due("count(10)", x.count(10), -2);
    c.due("count(-1)", x.count(-1), -2);
    x.prove(0, true);
    c.due("OPEN ones", x.count(8), 0);
  }
}
