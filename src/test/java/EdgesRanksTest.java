/** The edges of promises 24 to 28 and of the Terms' part 6; a test for each sentence. */
public final class EdgesRanksTest {
  private static final int NONE = Check.NONE, BAD = Check.BAD, ROOM = Check.ROOM;
  private static final int LEAST = Check.LEAST, GREATEST = Check.GREATEST;

  public static void main(String[] args) {
    Check c = new Check();
    rankEdges(c);
    exactly(c);
    likeOdds(c);
    rankFull(c);
    budgetEdges(c);
    notMoreThanM(c);
    tillN(c);
    throughRanks(c);
    chosenEdges(c);
    latestBudget(c);
    compareEdges(c);
    compareWhat(c);
    compareFull(c);
    ofABuild(c);
    trendEdges(c);
    trendAsItWas(c);
    trendFull(c);
    c.end();
  }

  private static AlarmGroups lines(int n) {
    AlarmGroups x = new AlarmGroups();
    Check.lines(x, n);
    x.build();
    return x;
  }

  private static void rankEdges(Check c) {
    c.sentence(24, "The k-th of RANKS, from 0; NONE. BAD: k is below 0.");
    AlarmGroups none = new AlarmGroups();
    c.each("rank(n), without a BUILD", none::rank, NONE, 0, 1, GREATEST);
    c.each("rank(n), without a BUILD", none::rank, BAD, LEAST, -2, -1);
    AlarmGroups x = lines(1);
    x.alarm(0, 0, 1, 0, 1);
    c.due("rank(0)", x.rank(0), 0);
    c.each("rank(n)", x::rank, NONE, 1, 50, GREATEST);
    c.each("rank(n)", x::rank, BAD, LEAST, -2, -1);
    x.prove(0, true);
    c.due("a CLOSED one", x.rank(0), NONE);
  }

  private static void ahead(Check c, int p, int q, int p2, int q2) {
    AlarmGroups x = lines(2);
    x.alarm(0, 0, 1, p2, q2);
    x.alarm(1, 0, 1, p, q);
    c.due(p + " of " + q + " ahead of " + p2 + " of " + q2, x.rank(0), 1);
    AlarmGroups y = lines(2);
    y.alarm(0, 0, 1, p, q);
    y.alarm(1, 0, 1, p2, q2);
    c.due(p2 + " of " + q2 + " behind " + p + " of " + q, y.rank(0), 0);
  }

  private static void exactly(Check c) {
    c.sentence(0, "that of the greater ODDS first (p by q, exactly)");
    ahead(c, 999, 1000, 998, 999);
    ahead(c, 1, 999, 1, 1000);
    ahead(c, 1, 1000, 0, 1);
    ahead(c, 1000, 1000, 999, 1000);
    ahead(c, 1, 1, 999, 1000);
    ahead(c, 334, 1000, 1, 3);
    ahead(c, 1, 3, 333, 1000);
    ahead(c, 500, 999, 1, 2);
    ahead(c, 1, 2, 499, 999);
    ahead(c, 3, 4, 700, 1000);
  }

  private static void alike(Check c, int p, int q, int p2, int q2) {
    AlarmGroups x = lines(2);
    x.alarm(1, 0, 1, p, q);
    x.alarm(0, 0, 1, p2, q2);
    c.due(p + " of " + q + " like " + p2 + " of " + q2, x.rank(0), 1);
    AlarmGroups y = lines(2);
    y.alarm(1, 0, 1, p2, q2);
    y.alarm(0, 0, 1, p, q);
    c.due(p2 + " of " + q2 + " like " + p + " of " + q, y.rank(0), 1);
  }

  private static void likeOdds(Check c) {
    c.sentence(0, "of like ones that of the lesser LINE, then KIND");
    alike(c, 1, 2, 500, 1000);
    alike(c, 0, 1, 0, 1000);
    alike(c, 1, 1, 1000, 1000);
    alike(c, 1, 3, 333, 999);
    AlarmGroups x = lines(40);
    x.alarm(39, 0, 1, 1, 2);
    x.alarm(9, 9, 1, 1, 2);
    x.alarm(9, 0, 1, 2, 4);
    x.alarm(10, 1, 1, 1, 2);
    x.alarm(0, 9, 1, 3, 6);
    int[] due = {4, 2, 1, 3, 0, NONE};
    for (int k = 0; k < due.length; k++) {
      c.due("rank(" + k + ")", x.rank(k), due[k]);
    }
  }

  private static AlarmGroups fifty() {
    AlarmGroups x = lines(5);
    for (int i = 0; i < 50; i++) {
      x.alarm(4 - i / 10, 9 - i % 10, 1, 1, 2);
    }
    return x;
  }

  private static void rankFull(Check c) {
    c.sentence(0, "RANKS: all OPEN ALARMS");
    AlarmGroups x = fifty();
    for (int k = 0; k < 50; k++) {
      c.due("rank(" + k + ")", x.rank(k), 49 - k);
    }
    c.due("rank(50)", x.rank(50), NONE);
    Check.silence(x, "silence all kind 0;");
    c.due("without the SILENCED ones", x.rank(0), 48);
    c.due("the last of 45", x.rank(44), 0);
    c.due("behind it", x.rank(45), NONE);
  }

  private static void budgetEdges(Check c) {
    c.sentence(25, "CHOSEN: how many. BAD: n or m is not 0 .. 50.");
    AlarmGroups x = fifty();
    c.each("budget(n, 1)", n -> x.budget(n, 1), BAD, LEAST, -1, 51, GREATEST);
    c.each("budget(1, n)", n -> x.budget(1, n), BAD, LEAST, -1, 51, GREATEST);
    c.each("budget(n, n)", n -> x.budget(n, n), BAD, LEAST, -1, 51, GREATEST);
    c.due("none is CHOSEN yet", x.chosen(0), NONE);
    c.due("budget(50, 50)", x.budget(50, 50), 50);
    c.due("budget(49, 50)", x.budget(49, 50), 49);
    c.due("budget(50, 49)", x.budget(50, 49), 49);
    c.due("budget(1, 1)", x.budget(1, 1), 1);
    c.due("budget(0, 50)", x.budget(0, 50), 0);
    c.due("budget(50, 0)", x.budget(50, 0), 0);
    c.due("budget(0, 0)", x.budget(0, 0), 0);
    c.due("of none", new AlarmGroups().budget(50, 50), 0);
  }

  private static AlarmGroups threeFiles() {
    AlarmGroups x = Check.built(0, 1, 5, 2, 1, 3);
    for (int i = 0; i < 9; i++) {
      x.alarm(i < 5 ? 0 : i < 8 ? 1 : 2, i % 5, 1, 9 - i, 10);
    }
    return x;
  }

  private static void chosenAre(Check c, AlarmGroups x, int n, int m, int... due) {
    String call = "budget(" + n + ", " + m + ")";
    c.due(call, x.budget(n, m), due.length);
    for (int i = 0; i < due.length; i++) {
      c.due("chosen(" + i + ") behind " + call, x.chosen(i), due[i]);
    }
    c.due("the end behind " + call, x.chosen(due.length), NONE);
  }

  private static void notMoreThanM(Check c) {
    c.sentence(0, "going through RANKS those of whose FILE not m are CHOSEN yet");
    AlarmGroups x = threeFiles();
    chosenAre(c, x, 50, 1, 0, 5, 8);
    chosenAre(c, x, 50, 2, 0, 1, 5, 6, 8);
    chosenAre(c, x, 50, 3, 0, 1, 2, 5, 6, 7, 8);
    chosenAre(c, x, 50, 4, 0, 1, 2, 3, 5, 6, 7, 8);
    chosenAre(c, x, 50, 5, 0, 1, 2, 3, 4, 5, 6, 7, 8);
    chosenAre(c, x, 50, 0);
  }

  private static void tillN(Check c) {
    c.sentence(0, "till n are");
    AlarmGroups x = threeFiles();
    chosenAre(c, x, 0, 50);
    chosenAre(c, x, 1, 50, 0);
    chosenAre(c, x, 2, 1, 0, 5);
    chosenAre(c, x, 8, 50, 0, 1, 2, 3, 4, 5, 6, 7);
    chosenAre(c, x, 9, 50, 0, 1, 2, 3, 4, 5, 6, 7, 8);
    chosenAre(c, x, 10, 50, 0, 1, 2, 3, 4, 5, 6, 7, 8);
    chosenAre(c, x, 3, 2, 0, 1, 5);
  }

  private static void throughRanks(Check c) {
    c.sentence(0, "CHOSEN by n and m: going through RANKS");
    AlarmGroups x = Check.built(0, 1, 5, 2, 0, 3);
    x.alarm(0, 0, 1, 1, 4);
    x.alarm(1, 0, 1, 1, 2);
    x.alarm(2, 0, 1, 3, 4);
    x.alarm(2, 1, 0, 1, 1);
    chosenAre(c, x, 50, 50, 2, 1, 0);
    chosenAre(c, x, 2, 50, 2, 1);
    chosenAre(c, x, 50, 1, 2, 1);
    Check.silence(x, "silence line 2;");
    chosenAre(c, x, 50, 1, 1, 0);
  }

  private static void chosenEdges(Check c) {
    c.sentence(26, "NONE. BAD: i is below 0.");
    AlarmGroups none = new AlarmGroups();
    c.each("chosen(n), without a budget", none::chosen, NONE, 0, 1, GREATEST);
    c.each("chosen(n), without a budget", none::chosen, BAD, LEAST, -1);
    AlarmGroups x = fifty();
    x.budget(50, 50);
    for (int i = 0; i < 50; i++) {
      c.due("chosen(" + i + ")", x.chosen(i), 49 - i);
    }
    c.each("chosen(n)", x::chosen, NONE, 50, GREATEST);
    c.each("chosen(n)", x::chosen, BAD, LEAST, -2, -1);
  }

  private static void latestBudget(Check c) {
    c.sentence(26, "The i-th that was CHOSEN in the latest budget() that was not BAD");
    AlarmGroups x = threeFiles();
    x.budget(50, 1);
    c.due("a BAD one", x.budget(51, 1), BAD);
    c.due("a BAD one", x.budget(1, -1), BAD);
    c.due("chosen(1)", x.chosen(1), 5);
    x.prove(0, true);
    c.due("CLOSED since", x.chosen(0), 0);
    x.rank(0);
    x.out();
    x.groups();
    c.due("still", x.chosen(2), 8);
    x.build();
    c.due("GONE since", x.chosen(1), 5);
    c.due("a new one of none", x.budget(50, 50), 0);
    c.due("chosen(0)", x.chosen(0), NONE);
  }

  private static AlarmGroups twoBuilds() {
    AlarmGroups x = lines(4);
    x.alarm(0, 0, 1, 1, 2);
    x.alarm(1, 0, 1, 1, 2);
    x.alarm(2, 0, 1, 1, 2);
    Check.lines(x, 4);
    x.build();
    x.alarm(2, 0, 1, 1, 2);
    x.alarm(3, 0, 1, 1, 2);
    return x;
  }

  private static void compareEdges(Check c) {
    c.sentence(27, "the i-th, by numbers; i = -1: how many. BAD.");
    AlarmGroups none = new AlarmGroups();
    c.each("compare(n, n, 0, -1), without a BUILD", n -> none.compare(n, n, 0, -1), BAD, LEAST, -1, 0, GREATEST);
    AlarmGroups x = twoBuilds();
    c.each("compare(n, 1, 0, -1)", n -> x.compare(n, 1, 0, -1), BAD, LEAST, -1, 2, 12, GREATEST);
    c.each("compare(1, n, 0, -1)", n -> x.compare(1, n, 0, -1), BAD, LEAST, -1, 2, 12, GREATEST);
    c.each("compare(0, 1, n, -1)", n -> x.compare(0, 1, n, -1), BAD, LEAST, -1, 3, GREATEST);
    c.each("compare(0, 1, 0, n)", n -> x.compare(0, 1, 0, n), BAD, LEAST, -2, 1, GREATEST);
    c.each("compare(0, 1, 1, n)", n -> x.compare(0, 1, 1, n), BAD, LEAST, -2, 2, GREATEST);
    c.each("compare(0, 1, 2, n)", n -> x.compare(0, 1, 2, n), BAD, LEAST, -2, 1, GREATEST);
    c.due("of none: how many", x.compare(0, 0, 0, -1), 0);
    c.due("of none: the first", x.compare(0, 0, 0, 0), BAD);
  }

  private static void compareIs(Check c, AlarmGroups x, int first, int second, int what, int... due) {
    String call = "compare(" + first + ", " + second + ", " + what + ", ";
    c.due(call + "-1)", x.compare(first, second, what, -1), due.length);
    for (int i = 0; i < due.length; i++) {
      c.due(call + i + ")", x.compare(first, second, what, i), due[i]);
    }
    c.due(call + due.length + ")", x.compare(first, second, what, due.length), BAD);
  }

  private static void compareWhat(Check c) {
    c.sentence(27, "the ALARMS of the second that are not of the first (what = 0), of the first that are not of the second (1), of both (2)");
    AlarmGroups x = twoBuilds();
    compareIs(c, x, 0, 1, 0, 3);
    compareIs(c, x, 0, 1, 1, 0, 1);
    compareIs(c, x, 0, 1, 2, 2);
    compareIs(c, x, 1, 0, 0, 0, 1);
    compareIs(c, x, 1, 0, 1, 3);
    compareIs(c, x, 1, 0, 2, 2);
    compareIs(c, x, 0, 0, 0);
    compareIs(c, x, 0, 0, 1);
    compareIs(c, x, 0, 0, 2, 0, 1, 2);
    compareIs(c, x, 1, 1, 2, 2, 3);
    x.build();
    compareIs(c, x, 1, 2, 1, 2, 3);
    compareIs(c, x, 2, 1, 0, 2, 3);
    compareIs(c, x, 2, 2, 2);
    compareIs(c, x, 0, 1, 0, 3);
  }

  private static void compareFull(Check c) {
    c.sentence(27, "by numbers");
    AlarmGroups x = fifty();
    for (int b = 1; b < 12; b++) {
      x.build();
    }
    for (int i = 0; i < 50; i++) {
      c.due("compare(0, 11, 1, " + i + ")", x.compare(0, 11, 1, i), i);
    }
    c.due("compare(0, 11, 1, 50)", x.compare(0, 11, 1, 50), BAD);
    c.due("compare(11, 0, 0, 49)", x.compare(11, 0, 0, 49), 49);
    c.due("compare(0, 12, 1, -1)", x.compare(0, 12, 1, -1), BAD);
  }

  private static void ofABuild(Check c) {
    c.sentence(0, "Of a BUILD are those that were TOLD when the next one came (of NOW: that are).");
    AlarmGroups x = lines(2);
    compareIs(c, x, 0, 0, 2);
    x.alarm(0, 0, 1, 1, 2);
    compareIs(c, x, 0, 0, 2, 0);
    Check.lines(x, 2);
    x.build();
    compareIs(c, x, 0, 0, 2, 0);
    compareIs(c, x, 1, 1, 2);
    c.due("CARRIED: of one", x.of(0, 7), 1);
    x.alarm(1, 0, 1, 1, 2);
    x.alarm(0, 0, 1, 1, 2);
    compareIs(c, x, 1, 1, 2, 0, 1);
    compareIs(c, x, 0, 0, 2, 0);
  }

  private static void trendEdges(Check c) {
    c.sentence(28, "0 how many, 1 CLOSED ones, 2 SILENCED ones, 3 OPEN ones. BAD.");
    AlarmGroups x = new AlarmGroups();
    c.each("trend(n, 0), without a BUILD", n -> x.trend(n, 0), BAD, LEAST, -1, 0, GREATEST);
    x.build();
    c.each("trend(0, n)", n -> x.trend(0, n), 0, 0, 1, 2, 3);
    c.each("trend(n, 0)", n -> x.trend(n, 0), BAD, LEAST, -1, 1, GREATEST);
    c.each("trend(0, n)", n -> x.trend(0, n), BAD, LEAST, -2, -1, 4, GREATEST);
    x.build();
    c.each("trend(0, n), of the one before", n -> x.trend(0, n), BAD, LEAST, -1, 4, 5, GREATEST);
    c.each("trend(n, 3)", n -> x.trend(n, 3), BAD, LEAST, -1, 2, 12, GREATEST);
  }

  private static void trendIs(Check c, AlarmGroups x, int build, int... due) {
    for (int what = 0; what < 4; what++) {
      c.due("trend(" + build + ", " + what + ")", x.trend(build, what), due[what]);
    }
  }

  private static void trendAsItWas(Check c) {
    c.sentence(28, "Of the ALARMS of a BUILD, as it was when the next came (NOW: as it is)");
    AlarmGroups x = lines(5);
    x.alarm(0, 0, 1, 1, 2);
    x.alarm(1, 0, 2, 1, 2);
    x.alarm(2, 0, 1, 1, 2);
    x.alarm(3, 0, 4, 1, 2);
    x.prove(0, true);
    Check.silence(x, "silence lines 1 to 2 until 0;");
    trendIs(c, x, 0, 4, 2, 2, 1);
    Check.lines(x, 5);
    x.build();
    trendIs(c, x, 0, 4, 2, 2, 1);
    trendIs(c, x, 1, 0, 0, 0, 0);
    x.prove(0, false);
    x.lift(0);
    x.alarm(0, 0, 1, 1, 2);
    trendIs(c, x, 0, 4, 2, 2, 1);
    trendIs(c, x, 1, 1, 0, 0, 1);
    x.prove(0, true);
    trendIs(c, x, 1, 1, 1, 0, 0);
    x.build();
    x.prove(0, false);
    trendIs(c, x, 1, 1, 1, 0, 0);
    trendIs(c, x, 2, 0, 0, 0, 0);
  }

  private static void trendFull(Check c) {
    c.sentence(28, "(NOW: as it is)");
    AlarmGroups x = new AlarmGroups();
    for (int b = 0; b < 12; b++) {
      Check.lines(x, 4);
      x.build();
      for (int i = 0; i < 4; i++) {
        x.alarm(i, b % 10, b == i ? 0 : 1, 1, 2);
      }
      c.due("trend(" + b + ", 0)", x.trend(b, 0), 4);
    }
    for (int b = 0; b < 12; b++) {
      trendIs(c, x, b, 4, b < 4 ? 1 : 0, 0, b < 4 ? 3 : 4);
    }
    c.due("a BUILD that is refused", x.build(), ROOM);
    Check.silence(x, "silence all;");
    trendIs(c, x, 11, 4, 0, 4, 0);
    trendIs(c, x, 10, 4, 0, 0, 4);
    trendIs(c, x, 0, 4, 1, 0, 3);
  }
}
