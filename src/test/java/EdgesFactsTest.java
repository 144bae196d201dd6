/** The edges of promises 10 to 15 and of the Terms' part 3; a test for each sentence. */
public final class EdgesFactsTest {
  private static final int NONE = Check.NONE, BAD = Check.BAD, ROOM = Check.ROOM;
  private static final int LEAST = Check.LEAST, GREATEST = Check.GREATEST;

  public static void main(String[] args) {
    Check c = new Check();
    ruleEdges(c);
    ruleRoom(c);
    facts16(c);
    ruleOfNothing(c);
    againAndAgain(c);
    prove(c);
    proveNot(c);
    known(c);
    knownAsItIs(c);
    closes(c);
    closesEdges(c);
    noGroups(c);
    onlyOpenOnes(c);
    likeOnes(c);
    inNoneYet(c);
    closesAny(c);
    withoutAFact(c);
    mostGroups(c);
    groupEdges(c);
    groupByNumbers(c);
    c.end();
  }

  private static AlarmGroups wanting(int... wants) {
    AlarmGroups x = new AlarmGroups();
    Check.lines(x, 40);
    x.build();
    for (int i = 0; i < wants.length; i++) {
      x.alarm(i % 40, i / 40, wants[i], 1, 2);
    }
    return x;
  }

  private static void ruleEdges(Check c) {
    c.sentence(10, "BAD: set (0 .. 65535), head; ROOM.");
    AlarmGroups x = new AlarmGroups();
    c.each("rule(n, 0)", n -> x.rule(n, 0), BAD, LEAST, -1, 65536, GREATEST);
    c.each("rule(0, n)", n -> x.rule(0, n), BAD, LEAST, -1, 16, 32, GREATEST);
    c.due("none came", x.count(3), 0);
    c.due("none gives anything", x.known(NONE), 0);
    c.due("rule(65535, 0)", x.rule(65535, 0), 1);
    c.due("rule(0, 15)", x.rule(0, 15), 2);
    c.due("FACT 15", x.known(NONE), 1 << 15);
    c.due("rule(0, 0)", x.rule(0, 0), 3);
    c.due("FACT 0, too", x.known(NONE), 1 << 15 | 1);
  }

  private static void ruleRoom(Check c) {
    c.sentence(0, "A RULE (20 at most)");
    AlarmGroups x = new AlarmGroups();
    for (int i = 1; i <= 19; i++) {
      c.due("rule " + i, x.rule(1, 2), i);
    }
    c.due("rule 20", x.rule(1, 3), 20);
    c.due("rule 21", x.rule(1, 4), ROOM);
    c.each("BAD ahead of ROOM, set", n -> x.rule(n, 0), BAD, LEAST, -1, 65536, GREATEST);
    c.each("BAD ahead of ROOM, head", n -> x.rule(0, n), BAD, LEAST, -1, 16, GREATEST);
    c.due("how many", x.count(3), 20);
    c.due("the 20th gives 3, the 21st nothing", x.known(0), 1 | 1 << 2 | 1 << 3);
  }

  private static void facts16(Check c) {
    c.sentence(0, "FACTS 0 .. 15.");
    AlarmGroups x = new AlarmGroups();
    for (int fact = 0; fact < 16; fact++) {
      c.due("FACT " + fact, x.prove(fact, true), (2 << fact) - 1);
    }
    c.each("prove(n, true)", n -> x.prove(n, true), BAD, -1, 16);
    c.each("known(n)", x::known, 65535, NONE, 0, 15);
    c.each("known(n)", x::known, BAD, -2, 16);
    c.each("rule(0, n)", n -> x.rule(0, n), BAD, -1, 16);
  }

  private static void ruleOfNothing(Check c) {
    c.sentence(0, "if all FACTS of a set are KNOWN, one more is");
    AlarmGroups x = new AlarmGroups();
    x.rule(0, 7);
    c.due("of an empty set", x.known(NONE), 1 << 7);
    c.due("prove(7, false)", x.prove(7, false), 1 << 7);
    AlarmGroups y = new AlarmGroups();
    y.rule(65535 & ~(1 << 4), 4);
    for (int f = 0; f < 16; f++) {
      if (f != 4 && f != 9) {
        y.prove(f, true);
      }
    }
    c.due("14 of 15", y.known(NONE) >> 4 & 1, 0);
    c.due("15 of 15", y.prove(9, true), 65535);
    AlarmGroups z = new AlarmGroups();
    z.rule(65535, 3);
    z.rule(1 << 3, 3);
    c.due("a head in its set", z.known(NONE), 0);
  }

  private static void againAndAgain(Check c) {
    c.sentence(0, "PROVED ones are KNOWN, and what RULES give, again and again.");
    AlarmGroups back = new AlarmGroups();
    AlarmGroups forth = new AlarmGroups();
    for (int i = 0; i < 15; i++) {
      back.rule(1 << (14 - i), 15 - i);
      forth.rule(1 << (15 - i), 14 - i);
    }
    c.due("15 RULES, one behind the other", back.known(0), 65535);
    c.due("15 RULES, the other way", forth.known(15), 65535);
    c.due("from the middle", back.known(8), 0xFF00);
    AlarmGroups round = new AlarmGroups();
    for (int i = 0; i < 16; i++) {
      round.rule(1 << i, (i + 1) % 16);
    }
    c.due("a ring gives nothing", round.known(NONE), 0);
    c.due("but from one all", round.known(11), 65535);
  }

  private static void prove(Check c) {
    c.sentence(11, "A FACT is PROVED, or not: KNOWN, as bits. BAD.");
    AlarmGroups x = new AlarmGroups();
    c.each("prove(n, true)", n -> x.prove(n, true), BAD, LEAST, -1, 16, 31, 32, GREATEST);
    c.due("nothing is PROVED", x.known(NONE), 0);
    c.due("prove(0)", x.prove(0, true), 1);
    c.due("prove(15)", x.prove(15, true), 1 << 15 | 1);
    c.due("prove(15) again", x.prove(15, true), 1 << 15 | 1);
    c.each("prove(n, false)", n -> x.prove(n, false), BAD, LEAST, -1, 16, 31, 32, 47, GREATEST);
    c.due("both are PROVED", x.known(NONE), 1 << 15 | 1);
    for (int f = 0; f < 16; f++) {
      x.prove(f, true);
    }
    c.due("all", x.known(NONE), 65535);
  }

  private static void proveNot(Check c) {
    c.sentence(11, "or not");
    AlarmGroups x = new AlarmGroups();
    x.rule(1 << 2, 3);
    x.rule(1 << 3, 2);
    c.due("not, at first", x.prove(2, false), 0);
    c.due("prove(2)", x.prove(2, true), 12);
    c.due("not 3, which a RULE gives", x.prove(3, false), 12);
    c.due("not 2: those two do not hold each other", x.prove(2, false), 0);
    c.due("again", x.prove(2, false), 0);
  }

  private static void known(Check c) {
    c.sentence(12, "KNOWN in a TRIAL of a FACT (NONE: as it is), as bits. BAD.");
    AlarmGroups x = new AlarmGroups();
    c.each("known(n)", x::known, BAD, LEAST, -2, 16, 31, 32, GREATEST);
    c.due("known(0)", x.known(0), 1);
    c.due("known(15)", x.known(15), 1 << 15);
    c.due("known(NONE)", x.known(NONE), 0);
  }

  private static void knownAsItIs(Check c) {
    c.sentence(0, "A TRIAL of a FACT: KNOWN as it would be, if that were PROVED, too.");
    AlarmGroups x = new AlarmGroups();
    x.rule(1 | 2, 2);
    x.prove(0, true);
    c.due("with what is PROVED", x.known(1), 7);
    c.due("of one that is PROVED", x.known(0), 1);
    c.due("a TRIAL proves nothing", x.known(NONE), 1);
    x.prove(1, true);
    c.due("of one that a RULE gives", x.known(2), 7);
    c.due("a TRIAL unproves nothing", x.prove(2, false), 7);
  }

  private static void closes(Check c) {
    c.sentence(13, "Whether a TRIAL of a FACT closes an ALARM: 1, 0.");
    AlarmGroups x = wanting(1 << 15, 1, 3, 0, 65535);
    c.due("closes(15, 0)", x.closes(15, 0), 1);
    c.due("closes(0, 0)", x.closes(0, 0), 0);
    c.due("closes(0, 1)", x.closes(0, 1), 1);
    c.due("one of two", x.closes(0, 2), 0);
    c.due("one that WANTS nothing", x.closes(9, 3), 1);
    c.due("one that WANTS all", x.closes(0, 4), 0);
    for (int f = 0; f < 15; f++) {
      x.prove(f, true);
    }
    c.due("the last of all", x.closes(15, 4), 1);
    c.due("not the last", x.closes(3, 4), 0);
    x.build();
    c.due("a GONE one", x.closes(15, 4), 1);
  }

  private static void closesEdges(Check c) {
    c.sentence(13, "BAD.");
    AlarmGroups none = wanting();
    c.each("closes(0, n), without one", n -> none.closes(0, n), BAD, LEAST, -1, 0, GREATEST);
    AlarmGroups x = wanting(1, 2);
    c.each("closes(n, 0)", n -> x.closes(n, 0), BAD, LEAST, -1, 16, 32, GREATEST);
    c.each("closes(0, n)", n -> x.closes(0, n), BAD, LEAST, -1, 2, 50, GREATEST);
    c.due("closes(0, 1)", x.closes(0, 1), 0);
  }

  private static void noGroups(Check c) {
    c.sentence(14, "How many GROUPS there are.");
    AlarmGroups none = new AlarmGroups();
    c.due("without a BUILD", none.groups(), 0);
    c.each("group(n, -1)", n -> none.group(n, -1), BAD, LEAST, -1, 0, GREATEST);
    AlarmGroups x = wanting(0, 0);
    c.due("all are CLOSED", x.groups(), 0);
    c.due("group(0, -1)", x.group(0, -1), BAD);
    c.due("group(0, -2)", x.group(0, -2), BAD);
    AlarmGroups y = wanting(1);
    c.due("one", y.groups(), 1);
    c.due("its FACT", y.group(0, -2), 0);
  }

  private static void onlyOpenOnes(Check c) {
    c.sentence(0, "An ALARM is OPEN, if it is TOLD, not CLOSED, not SILENCED.");
    AlarmGroups x = wanting(1, 2, 4);
    c.due("three", x.groups(), 3);
    c.due("three OPEN", x.count(8), 3);
    x.prove(0, true);
    c.due("less a CLOSED one", x.groups(), 2);
    c.due("two OPEN", x.count(8), 2);
    Check.silence(x, "silence line 1;");
    c.due("less a SILENCED one", x.groups(), 1);
    c.due("one OPEN", x.count(8), 1);
    c.due("it", x.group(0, 0), 2);
    Check.lines(x, 40);
    x.build();
    c.due("less a CARRIED one", x.groups(), 0);
    c.due("none OPEN", x.count(8), 0);
    x.alarm(2, 0, 4, 1, 2);
    c.due("TOLD again", x.count(8), 1);
  }

  private static void likeOnes(Check c) {
    c.sentence(0, "the FACT whose TRIAL closes the most (of like ones the least number)");
    AlarmGroups x = wanting(1 << 15, 1 << 15, 1 << 3, 1 << 3, 1);
    int[] facts = {3, 15, 0};
    for (int k = 0; k < 3; k++) {
      c.due("FACT of " + k, x.group(k, -2), facts[k]);
    }
    x.rule(1 << 9, 15);
    x.rule(1 << 9, 0);
    c.due("9 closes three", x.group(0, -2), 9);
    c.due("how many", x.group(0, -1), 3);
    c.due("then 3", x.group(1, -2), 3);
    c.due("and none is left", x.groups(), 2);
    AlarmGroups y = wanting(1 << 5);
    y.rule(1 << 2, 5);
    c.due("the least that gives it", y.group(0, -2), 2);
  }

  private static void inNoneYet(Check c) {
    c.sentence(0, "GROUPS of all OPEN ones: of those that are in none yet, again and again");
    AlarmGroups x = wanting(1, 1, 1, 2, 2, 4, 4);
    x.rule(2, 0);
    x.rule(4, 1);
    c.due("2 closes all", x.groups(), 1);
    AlarmGroups y = wanting(1, 1, 1, 1, 2, 2, 4, 4, 4);
    y.rule(2, 0);
    // 1 closes six; of what is left 2 closes three, and 0 none
    c.due("two GROUPS", y.groups(), 2);
    c.due("FACT of 0", y.group(0, -2), 1);
    c.due("how many in 0", y.group(0, -1), 6);
    c.due("FACT of 1", y.group(1, -2), 2);
    c.due("how many in 1", y.group(1, -1), 3);
    AlarmGroups z = wanting(1, 1, 1, 2, 2, 4, 4, 4, 4);
    z.rule(4, 0);
    c.due("2 closes seven", z.group(0, -1), 7);
    c.due("what is left to 1", z.group(1, -1), 2);
    c.due("none is in two", z.groups(), 2);
  }

  private static void closesAny(Check c) {
    c.sentence(0, "as long as one closes any: these are the next GROUP");
    AlarmGroups x = wanting(1, 3, 7);
    c.due("one by 0, two are left", x.groups(), 2);
    c.due("FACT of 0", x.group(0, -2), 0);
    c.due("FACT of 1", x.group(1, -2), NONE);
    c.due("TRIALS of GROUPS ahead do not count", x.group(1, -1), 2);
    x.prove(0, true);
    c.due("one by 1, one is left", x.groups(), 2);
    c.due("FACT of 0", x.group(0, -2), 1);
    x.prove(1, true);
    c.due("one by 2", x.groups(), 1);
    x.prove(2, true);
    c.due("none", x.groups(), 0);
  }

  private static void withoutAFact(Check c) {
    c.sentence(0, "What is left is the last one, without a FACT.");
    AlarmGroups all = wanting(3, 5);
    c.due("all are left", all.groups(), 1);
    c.due("without a FACT", all.group(0, -2), NONE);
    c.due("both", all.group(0, -1), 2);
    AlarmGroups none = wanting(1, 2);
    c.due("none is left", none.groups(), 2);
    c.due("the last one has a FACT", none.group(1, -2), 1);
    c.due("no third", none.group(2, -2), BAD);
  }

  private static void mostGroups(Check c) {
    c.sentence(14, "How many GROUPS there are.");
    int[] wants = new int[50];
    for (int i = 0; i < 50; i++) {
      wants[i] = i < 48 ? 1 << i / 3 : 65535;
    }
    AlarmGroups x = wanting(wants);
    c.due("16 with a FACT, one without", x.groups(), 17);
    for (int k = 0; k < 16; k++) {
      c.due("FACT of " + k, x.group(k, -2), k);
      c.due("how many in " + k, x.group(k, -1), 3);
      c.due("the last of " + k, x.group(k, 2), 3 * k + 2);
    }
    c.due("FACT of 16", x.group(16, -2), NONE);
    c.due("how many in 16", x.group(16, -1), 2);
    c.due("the last ALARM", x.group(16, 1), 49);
    c.due("group(17, -1)", x.group(17, -1), BAD);
  }

  private static void groupEdges(Check c) {
    c.sentence(15, "i = -1: how many; i = -2: its FACT (NONE). BAD.");
    AlarmGroups x = wanting(1, 1, 6);
    c.due("groups", x.groups(), 2);
    c.each("group(n, -1)", n -> x.group(n, -1), BAD, LEAST, -2, -1, 2, 17, GREATEST);
    c.each("group(n, -2)", n -> x.group(n, -2), BAD, LEAST, -1, 2, GREATEST);
    c.each("group(n, 0)", n -> x.group(n, 0), BAD, LEAST, -1, 2, GREATEST);
    c.each("group(0, n)", n -> x.group(0, n), BAD, LEAST, -3, 2, GREATEST);
    c.each("group(1, n)", n -> x.group(1, n), BAD, LEAST, -3, 1, GREATEST);
    c.due("group(1, 0)", x.group(1, 0), 2);
    c.due("group(1, -2)", x.group(1, -2), NONE);
  }

  private static void groupByNumbers(Check c) {
    c.sentence(15, "Of GROUP k: its i-th ALARM, by numbers");
    int[] wants = new int[50];
    java.util.Arrays.fill(wants, 1 << 8);
    AlarmGroups x = wanting(wants);
    c.due("all in one", x.group(0, -1), 50);
    for (int i = 0; i < 50; i++) {
      c.due("group(0, " + i + ")", x.group(0, i), i);
    }
    c.due("group(0, 50)", x.group(0, 50), BAD);
    x.prove(8, true);
    c.due("as it is now", x.group(0, 0), BAD);
  }
}
