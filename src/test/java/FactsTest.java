/** Promises 10 to 15: rule, prove, known, closes, groups, group. */
public final class FactsTest {
  public static void main(String[] args) {
    Check c = new Check();
    rule(c);
    prove(c);
    known(c);
    closes(c);
    groups(c);
    groupsOfOpenOnes(c);
    mostGroups(c);
    c.end();
  }

  private static void rule(Check c) {
    AlarmGroups x = new AlarmGroups();
    c.due("set 65536", x.rule(65536, 0), -2);
    c.due("set -1", x.rule(-1, 0), -2);
    c.due("head 16", x.rule(0, 16), -2);
    c.due("head -1", x.rule(0, -1), -2);
    c.due("none came", x.count(3), 0);
    for (int i = 1; i <= 20; i++) {
      c.due("rule " + i, x.rule(65535, 15), i);
    }
    c.due("rule 21", x.rule(0, 1), -4);
    c.due("BAD ahead of ROOM", x.rule(0, 16), -2);
    c.due("count(3)", x.count(3), 20);
    c.due("it gives nothing", x.known(-1), 0);
    AlarmGroups y = new AlarmGroups();
    y.rule(0, 9);
    c.due("an empty set", y.known(-1), 1 << 9);
  }

  private static void prove(Check c) {
    AlarmGroups x = new AlarmGroups();
    c.due("prove(16)", x.prove(16, true), -2);
    c.due("prove(-1)", x.prove(-1, true), -2);
    c.due("prove(15)", x.prove(15, true), 1 << 15);
    c.due("prove(15) again", x.prove(15, true), 1 << 15);
    c.due("prove(0)", x.prove(0, true), 1 << 15 | 1);
    x.rule(1 << 15 | 1, 3);
    x.rule(1 << 3, 15);
    c.due("not 15", x.prove(15, false), 1);
    c.due("3, too", x.prove(3, true), 1 << 15 | 1 << 3 | 1);
    c.due("not 3: 15 was not PROVED", x.prove(3, false), 1);
    c.due("not 2, which is not", x.prove(2, false), 1);
    c.due("15", x.prove(15, true), 1 << 15 | 1 << 3 | 1);
    c.due("not 3: a RULE gives it", x.prove(3, false), 1 << 15 | 1 << 3 | 1);
  }

  private static void known(Check c) {
    AlarmGroups x = new AlarmGroups();
    // the longest chain, told in the worst order
    for (int i = 14; i >= 0; i--) {
      x.rule(1 << i, i + 1);
    }
    c.due("known(-1)", x.known(-1), 0);
    c.due("known(0)", x.known(0), 65535);
    c.due("known(14)", x.known(14), 3 << 14);
    c.due("known(15)", x.known(15), 1 << 15);
    c.due("known(16)", x.known(16), -2);
    c.due("known(-2)", x.known(-2), -2);
    c.due("a TRIAL proves nothing", x.known(-1), 0);
    AlarmGroups y = new AlarmGroups();
    for (int i = 15; i >= 1; i--) {
      y.rule((1 << i) - 1, i);
    }
    c.due("known(1)", y.known(1), 2);
    c.due("known(0)", y.known(0), 65535);
    y.prove(0, true);
    c.due("known(-1)", y.known(-1), 65535);
  }

  private static void closes(Check c) {
    AlarmGroups x = new AlarmGroups();
    Check.build(x, 0, 1, 0, 2, 0, 3);
    x.alarm(0, 0, 3, 1, 2);
    x.alarm(1, 0, 0, 1, 2);
    x.alarm(2, 0, 1 << 15, 1, 2);
    c.due("closes(0, 0)", x.closes(0, 0), 0);
    c.due("closes(0, 1), CLOSED as it is", x.closes(0, 1), 1);
    c.due("closes(15, 2)", x.closes(15, 2), 1);
    c.due("closes(16, 0)", x.closes(16, 0), -2);
    c.due("closes(-1, 0)", x.closes(-1, 0), -2);
    c.due("closes(0, 3)", x.closes(0, 3), -2);
    c.due("closes(0, -1)", x.closes(0, -1), -2);
    x.rule(1, 1);
    c.due("by a RULE", x.closes(0, 0), 1);
    c.due("the other way not", x.closes(1, 0), 0);
    x.prove(0, true);
    c.due("any does then", x.closes(9, 0), 1);
    Check.build(x);
    c.due("a GONE one, too", x.closes(15, 2), 1);
  }

  private static void groups(Check c) {
    AlarmGroups x = new AlarmGroups();
    for (int i = 0; i < 8; i++) {
      x.line(0, i);
    }
    x.build();
    int[] wants = {1 << 5, 1 << 3, 1 << 5, 1 << 3, 1 << 9, 1 << 3 | 1 << 5, 1 << 1 | 1 << 2, 1 << 4};
    for (int i = 0; i < 8; i++) {
      x.alarm(i, 0, wants[i], 1, 2);
    }
    // 3 and 5 close two each: the least first; then 5; then 4 and 9; two are left
    c.due("groups()", x.groups(), 5);
    int[] facts = {3, 5, 4, 9, -1};
    int[][] members = {{1, 3}, {0, 2}, {7}, {4}, {5, 6}};
    for (int k = 0; k < 5; k++) {
      c.due("FACT of " + k, x.group(k, -2), facts[k]);
      c.due("how many in " + k, x.group(k, -1), members[k].length);
      for (int i = 0; i < members[k].length; i++) {
        c.due("group(" + k + ", " + i + ")", x.group(k, i), members[k][i]);
      }
      c.due("behind the last of " + k, x.group(k, members[k].length), -2);
    }
    c.due("group(5, -1)", x.group(5, -1), -2);
    c.due("group(-1, -1)", x.group(-1, -1), -2);
    c.due("group(0, -3)", x.group(0, -3), -2);
    c.due("TRIALS are not added up", x.group(4, 0), 5);
    x.rule(1 << 9, 5);
    // 9 gives 5, too: three
    c.due("groups()", x.groups(), 4);
    c.due("FACT of 0", x.group(0, -2), 9);
    c.due("how many", x.group(0, -1), 3);
    c.due("by numbers", x.group(0, 2), 4);
    c.due("FACT of 1", x.group(1, -2), 3);
  }

  private static void groupsOfOpenOnes(Check c) {
    AlarmGroups x = new AlarmGroups();
    Check.build(x, 0, 1, 0, 2, 0, 3, 0, 4);
    c.due("none", x.groups(), 0);
    c.due("group(0, -1)", x.group(0, -1), -2);
    x.alarm(0, 0, 0, 1, 2);
    c.due("a CLOSED one", x.groups(), 0);
    x.alarm(1, 0, 3, 1, 2);
    c.due("no FACT closes it alone", x.groups(), 1);
    c.due("so none", x.group(0, -2), -1);
    c.due("it is there", x.group(0, 0), 1);
    x.alarm(2, 0, 4, 1, 2);
    Check.silence(x, "silence line 2;");
    c.due("a SILENCED one", x.groups(), 1);
    x.lift(0);
    c.due("no more", x.groups(), 2);
    Check.build(x, 0, 1, 0, 2, 0, 3, 0, 4);
    c.due("CARRIED ones", x.groups(), 0);
  }

  private static void mostGroups(Check c) {
    AlarmGroups x = new AlarmGroups();
    for (int i = 0; i < 17; i++) {
      x.line(0, i);
    }
    x.build();
    for (int i = 0; i < 16; i++) {
      x.alarm(i, 0, 1 << (15 - i), 1, 2);
    }
    x.alarm(16, 0, 65535, 1, 2);
    c.due("17 GROUPS", x.groups(), 17);
    for (int k = 0; k < 16; k++) {
      c.due("FACT of " + k, x.group(k, -2), k);
      c.due("its one", x.group(k, 0), 15 - k);
    }
    c.due("the last one", x.group(16, -2), -1);
    c.due("its one", x.group(16, 0), 16);
  }
}
