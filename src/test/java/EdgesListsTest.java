/** The edges of promises 29 to 33 and of the Terms' part 7; a test for each sentence. */
public final class EdgesListsTest {
  private static final int NONE = Check.NONE, BAD = Check.BAD, ROOM = Check.ROOM;
  private static final int LEAST = Check.LEAST, GREATEST = Check.GREATEST;
  /** As OUT is one, of all numbers of digits that there can be. */
  private static final String LIST = "0@0 0/1;9@0 10/10;0@9 100/100;5@39 1000/1000;";

  public static void main(String[] args) {
    Check c = new Check();
    outOfNone(c);
    outNumbers(c);
    outOrder(c);
    outFull(c);
    outByte(c);
    outStays(c);
    backEdges(c);
    backRoom(c);
    backBytes(c);
    readOfNone(c);
    readDigits(c);
    readZeros(c);
    readEveryByte(c);
    readEnds(c);
    readJustSo(c);
    readTaken(c);
    readLongest(c);
    countEdges(c);
    countFull(c);
    countOfNow(c);
    c.end();
  }

  private static AlarmGroups listed() {
    AlarmGroups x = new AlarmGroups();
    Check.lines(x, 40);
    x.build();
    x.alarm(39, 5, 1, 1000, 1000);
    x.alarm(9, 0, 0, 100, 100);
    x.alarm(0, 9, 1, 10, 10);
    x.alarm(0, 0, 1, 0, 1);
    return x;
  }

  private static void outOfNone(Check c) {
    c.sentence(29, "OUT is made: how many bytes it has.");
    AlarmGroups x = new AlarmGroups();
    c.due("without a BUILD", x.out(), 0);
    Check.lines(x, 1);
    x.build();
    c.due("without an ALARM", x.out(), 0);
    x.alarm(0, 0, 0, 0, 1);
    c.due("with one", x.out(), 8);
    Check.lines(x, 1);
    x.build();
    c.due("with a CARRIED one", x.out(), 0);
    c.due("count(9)", x.count(9), 0);
  }

  private static void outNumbers(Check c) {
    c.sentence(0, "each as KIND @ LINE, a blank, p / q ; (numbers without 0s in front; no blanks but this one)");
    c.same("OUT", Check.outText(listed()), LIST);
    c.due("its bytes", listed().out(), LIST.length());
    int[] odds = {1, 9, 10, 11, 90, 99, 100, 101, 109, 110, 900, 999, 1000};
    AlarmGroups x = new AlarmGroups();
    Check.lines(x, 1);
    x.build();
    for (int q : odds) {
      x.alarm(0, 0, 1, q, q);
      c.same("OUT", Check.outText(x), "0@0 " + q + "/" + q + ";");
    }
  }

  private static void outOrder(Check c) {
    c.sentence(0, "all that are TOLD, by LINES, then KINDS");
    AlarmGroups x = new AlarmGroups();
    Check.lines(x, 11);
    x.build();
    x.alarm(10, 0, 1, 1, 1);
    x.alarm(9, 9, 1, 0, 1);
    x.alarm(9, 0, 0, 1, 2);
    x.alarm(2, 5, 1, 1, 3);
    Check.silence(x, "silence line 2;");
    c.same("CLOSED and SILENCED ones, too", Check.outText(x), "5@2 1/3;0@9 1/2;9@9 0/1;0@10 1/1;");
    Check.lines(x, 11);
    x.build();
    x.alarm(9, 9, 1, 1, 4);
    c.same("no CARRIED ones", Check.outText(x), "9@9 1/4;");
    x.build();
    c.same("no GONE ones", Check.outText(x), "");
  }

  private static AlarmGroups fifty() {
    AlarmGroups x = new AlarmGroups();
    Check.lines(x, 40);
    x.build();
    for (int i = 0; i < 50; i++) {
      x.alarm(39 - i / 10, 9 - i % 10, 0, 1000, 1000);
    }
    return x;
  }

  private static void outFull(Check c) {
    c.sentence(0, "OUT is a row of at most 800 bytes");
    StringBuilder due = new StringBuilder();
    for (int i = 0; i < 50; i++) {
      due.append(i % 10).append('@').append(35 + i / 10).append(" 1000/1000;");
    }
    AlarmGroups first = fifty();
    AlarmGroups second = fifty();
    c.due("50 of the longest", first.out(), 750);
    c.due("50 of the longest", second.out(), 750);
    for (int i = 0; i < 375; i++) {
      c.due("outByte(" + i + ")", first.outByte(i), due.charAt(i));
      c.due("outByte(" + (i + 375) + ")", second.outByte(i + 375), due.charAt(i + 375));
    }
    c.due("outByte(750)", first.outByte(750), NONE);
    c.due("out() again", first.out(), 750);
    c.due("count(9)", first.count(9), 750);
  }

  private static void outByte(Check c) {
    c.sentence(30, "Byte i of OUT; NONE.");
    AlarmGroups x = listed();
    c.each("outByte(n), not made", x::outByte, NONE, LEAST, -1, 0, GREATEST);
    int n = x.out();
    c.due("the first", x.outByte(0), '0');
    c.due("the last", x.outByte(n - 1), ';');
    c.each("outByte(n)", x::outByte, NONE, LEAST, -2, -1, n, 799, 800, GREATEST);
  }

  private static void outStays(Check c) {
    c.sentence(29, "OUT is made");
    AlarmGroups x = listed();
    c.due("not yet", x.count(9), 0);
    x.out();
    x.build();
    c.due("not anew by a BUILD", x.count(9), LIST.length());
    c.due("outByte(0)", x.outByte(0), '0');
    c.due("anew", x.out(), 0);
    c.due("outByte(0)", x.outByte(0), NONE);
    c.due("back(0, 1)", x.back(0, 1), BAD);
  }

  private static void backEdges(Check c) {
    c.sentence(31, "BAD: OUT has not so many; ROOM.");
    AlarmGroups none = listed();
    c.due("0 of none", none.back(0, 0), 0);
    c.each("back(0, n) of none", n -> none.back(0, n), BAD, LEAST, -1, 1, GREATEST);
    c.each("back(n, 0) of none", n -> none.back(n, 0), BAD, LEAST, -1, 1, GREATEST);
    AlarmGroups x = listed();
    int all = x.out();
    c.each("back(0, n)", n -> x.back(0, n), BAD, LEAST, -1, all + 1, GREATEST);
    c.each("back(n, 0)", n -> x.back(n, 0), BAD, LEAST, -1, all + 1, GREATEST);
    c.each("back(n, 1)", n -> x.back(n, 1), BAD, LEAST, -1, all, GREATEST);
    c.each("back(1, n)", n -> x.back(1, n), BAD, LEAST, -1, all, GREATEST);
    c.each("back(n, n)", n -> x.back(n, n), BAD, LEAST, -1, all, GREATEST);
    c.due("nothing came", x.count(6), 0);
    c.due("none at the end", x.back(all, 0), 0);
    c.due("the last", x.back(all - 1, 1), 1);
    c.due("all", x.back(0, all), all + 1);
    c.due("all but the first", x.back(1, all - 1), all + all);
  }

  private static void backRoom(Check c) {
    c.sentence(31, "ROOM.");
    AlarmGroups x = fifty();
    x.out();
    c.due("161 of 750", x.back(0, 161), ROOM);
    c.due("750 of 750", x.back(0, 750), ROOM);
    c.due("751 of 750 is BAD", x.back(0, 751), BAD);
    c.due("nothing came", x.count(6), 0);
    c.due("160 of 750", x.back(590, 160), 160);
    c.due("none when full", x.back(0, 0), 160);
    c.due("one when full", x.back(0, 1), ROOM);
    c.due("BAD ahead of ROOM", x.back(750, 1), BAD);
    c.due("BAD ahead of ROOM", x.back(-1, 1), BAD);
    c.due("BAD ahead of ROOM", x.back(0, -1), BAD);
    x.cut(159);
    c.due("two behind 159", x.back(0, 2), ROOM);
    c.due("159 still", x.count(6), 159);
    c.due("one behind 159", x.back(0, 1), 160);
  }

  private static void backBytes(Check c) {
    c.sentence(31, "n bytes of OUT from i on come behind THE TEXT: how many that has.");
    AlarmGroups x = listed();
    x.out();
    Check.say(x, "0@0 0/1;");
    c.due("the second", x.back(8, 10), 18);
    c.due("read()", x.read(), 2);
    c.due("from the second on", x.back(8, LIST.length() - 8), LIST.length() - 8);
    c.due("read()", x.read(), 3);
    c.due("not from its first byte", x.back(9, 9), 9);
    c.due("read()", x.read(), Check.fault(0));
    c.due("OUT is as it was", x.outByte(8), '9');
  }

  private static void readOfNone(Check c) {
    c.sentence(32, "(perhaps of none; in any order");
    c.due("of none, without a BUILD", new AlarmGroups().read(), 0);
    c.due("of none", listed().read(), 0);
    c.due("of none TOLD", Check.read(new AlarmGroups(), LIST), 0);
    c.due("as OUT is", Check.read(listed(), LIST), 4);
    c.due("in another order", Check.read(listed(), "5@39 1000/1000;0@0 0/1;0@9 100/100;"), 3);
  }

  private static void reads(Check c, String text, int due) {
    AlarmGroups x = listed();
    c.due("read of \"" + text + "\"", Check.read(x, text), due);
    c.due("taken", x.count(6), 0);
  }

  private static void readDigits(Check c) {
    c.sentence(32, "each number of 1 to 4 digits");
    reads(c, "9999@9999 9999/9999;", 0);
    reads(c, "99999@0 0/1;", Check.fault(4));
    reads(c, "0@99999 0/1;", Check.fault(6));
    reads(c, "0@0 99999/1;", Check.fault(8));
    reads(c, "0@0 0/99999;", Check.fault(10));
    reads(c, "@0 0/1;", Check.fault(0));
    reads(c, "0@ 0/1;", Check.fault(2));
    reads(c, "0@0 /1;", Check.fault(4));
    reads(c, "0@0 0/;", Check.fault(6));
    reads(c, "10@0 0/1;", 0);
    reads(c, "0@40 0/1;", 0);
    reads(c, "0@0 1001/1001;", 0);
    reads(c, "0@0 2/1;", 0);
    reads(c, "0@0 0/0;", 0);
  }

  private static void readZeros(Check c) {
    c.sentence(32, "without a 0 in front of others");
    reads(c, "0@0 0/1;", 1);
    reads(c, "00@0 0/1;", Check.fault(1));
    reads(c, "09@0 10/10;", Check.fault(1));
    reads(c, "0@00 0/1;", Check.fault(3));
    reads(c, "0@09 100/100;", Check.fault(3));
    reads(c, "0@0 00/1;", Check.fault(5));
    reads(c, "0@0 0/01;", Check.fault(7));
    reads(c, "0@0 0/00;", Check.fault(7));
  }

  private static void readEveryByte(Check c) {
    c.sentence(32, "THE TEXT (taken) is a list as OUT is one");
    String one = "9@0 10/10;";
    for (int place = 0; place < one.length(); place++) {
      for (int b = 0; b < 256; b++) {
        String text = one.substring(0, place) + (char) b + one.substring(place + 1);
        AlarmGroups x = listed();
        c.due("read of \"" + text + "\"", Check.read(x, text), dueOfOne(one, place, b));
      }
    }
    reads(c, one + " ", Check.fault(10));
    reads(c, one + ";", Check.fault(10));
    reads(c, " " + one, Check.fault(0));
    reads(c, one + " " + one, Check.fault(10));
    reads(c, one + one, 2);
  }

  /** Of "9@0 10/10;" with another byte at a place. */
  private static int dueOfOne(String one, int place, int b) {
    boolean isDigit = b >= '0' && b <= '9';
    if (b == one.charAt(place)) {
      return 1;
    }
    switch (place) {
      case 0: case 2:
        return isDigit ? 0 : Check.fault(place);
      case 1:
        // a digit makes a KIND of three, which the blank can't end
        return Check.fault(isDigit ? 3 : 1);
      case 3:
        // LINE 0 takes no digit more
        return Check.fault(3);
      case 4: case 7:
        return !isDigit ? Check.fault(place) : b == '0' ? Check.fault(place + 1) : 0;
      case 5:
        // "1/" is a p; then "/" can't stand
        return isDigit ? 0 : Check.fault(b == '/' ? 6 : 5);
      case 6:
        // a digit makes a p of five
        return Check.fault(isDigit ? 8 : 6);
      case 8:
        // "1;" is a q; then ";" can't stand
        return isDigit ? 0 : Check.fault(b == ';' ? 9 : 8);
      default:
        return Check.fault(isDigit ? 10 : 9);
    }
  }

  private static void readEnds(Check c) {
    c.sentence(0, "the end: how many bytes there are");
    for (int n = 1; n < LIST.length(); n++) {
      String text = LIST.substring(0, n);
      int whole = (int) text.chars().filter(b -> b == ';').count();
      reads(c, text, text.endsWith(";") ? whole : Check.fault(n));
    }
  }

  private static void readJustSo(Check c) {
    c.sentence(32, "how many in it are TOLD just so (LINE, KIND, p, q)");
    reads(c, "9@0 10/10;", 1);
    reads(c, "8@0 10/10;", 0);
    reads(c, "9@1 10/10;", 0);
    reads(c, "9@0 9/10;", 0);
    reads(c, "9@0 10/11;", 0);
    reads(c, "9@0 1/1;", 0);
    reads(c, "0@9 10/10;", 0);
    reads(c, "9@0 10/10;9@0 10/10;9@0 10/11;", 2);
    AlarmGroups x = listed();
    Check.silence(x, "silence all;");
    x.prove(0, true);
    c.due("SILENCED and CLOSED ones are TOLD", Check.read(x, LIST), 4);
    Check.lines(x, 40);
    x.build();
    c.due("CARRIED ones are not", Check.read(x, LIST), 0);
    x.alarm(0, 9, 0, 10, 10);
    c.due("but this one", Check.read(x, LIST), 1);
    x.build();
    c.due("GONE ones are not", Check.read(x, LIST), 0);
  }

  private static void readTaken(Check c) {
    c.sentence(32, "A FAULT.");
    AlarmGroups x = listed();
    Check.say(x, LIST.substring(0, 7));
    c.due("a FAULT", x.read(), Check.fault(7));
    c.due("taken", x.count(6), 0);
    c.due("of none then", x.read(), 0);
    c.due("a FAULT behind what is fine", Check.read(x, LIST + "x"), Check.fault(LIST.length()));
    c.due("ALARMS are as they were", Check.read(x, LIST), 4);
    c.due("none came", x.count(2), 4);
  }

  private static void readLongest(Check c) {
    c.sentence(32, "how many in it");
    c.due("20 in 160 bytes", Check.read(listed(), "0@0 0/1;".repeat(20)), 20);
    c.due("byte 159 can't stand", Check.read(listed(), "0@0 0/1;".repeat(19) + "0@0 0/1@"), Check.fault(159));
    c.due("the end, 160", Check.read(listed(), "0@0 0/1;".repeat(19) + "0@0 0/10"), Check.fault(160));
  }

  private static void countEdges(Check c) {
    c.sentence(33, "9 bytes of OUT. BAD.");
    AlarmGroups x = new AlarmGroups();
    c.each("count(n)", x::count, BAD, LEAST, -2, -1, 10, GREATEST);
    c.each("count(n)", x::count, 0, 0, 1, 2, 3, 4, 5, 6, 7, 8, 9);
    x.line(0, 0);
    c.due("LINES of NOW, without a BUILD", x.count(1), 0);
    c.due("LINES of THE DRAFT", x.count(7), 1);
  }

  private static void countFull(Check c) {
    c.sentence(33, "0 BUILDS, 1 LINES of NOW (0 without a BUILD), 2 ALARMS, 3 RULES, 4 SILENCES, 5 PATTERNS, 6 bytes of THE TEXT, 7 LINES of THE DRAFT");
    int[] due = {12, 40, 50, 20, 12, 8, 160, 40};
    AlarmGroups x = Worlds.full();
    for (int what = 0; what < 8; what++) {
      c.due("count(" + what + ")", x.count(what), due[what]);
    }
    c.each("count(n)", x::count, BAD, LEAST, -1, 10, GREATEST);
  }

  private static void countOfNow(Check c) {
    c.sentence(33, "8 OPEN ones");
    AlarmGroups x = new AlarmGroups();
    Check.lines(x, 5);
    x.build();
    for (int i = 0; i < 50; i++) {
      x.alarm(i / 10, i % 10, 1, 1, 2);
    }
    c.due("50", x.count(8), 50);
    Check.silence(x, "silence line 0;");
    c.due("less SILENCED ones", x.count(8), 40);
    x.alarm(1, 0, 0, 1, 2);
    c.due("less a CLOSED one", x.count(8), 39);
    x.lift(0);
    c.due("not SILENCED any more", x.count(8), 49);
    x.prove(0, true);
    c.due("all CLOSED", x.count(8), 0);
    x.prove(0, false);
    Check.lines(x, 5);
    x.build();
    c.due("CARRIED ones", x.count(8), 0);
  }
}
