import java.util.ArrayDeque;
import java.util.Deque;
import java.util.Random;

/** Runs of calls, made from seeds, on the program and on the model of the document; all answers must be alike. */
public final class RandomRunsTest {
  private static final int CALLS = 512;

  private final Random r;
  private final AlarmGroups x = new AlarmGroups();
  private final Model m = new Model();
  private final Deque<String> told = new ArrayDeque<>();
  private final int flavour;
  private int calls = 0;
  private boolean alike = true;

  private RandomRunsTest(long seed) {
    r = new Random(seed);
    flavour = r.nextInt(6);
  }

  public static void main(String[] args) {
    int runs = args.length > 0 ? Integer.parseInt(args[0]) : 1500;
    int from = args.length > 1 ? Integer.parseInt(args[1]) : 0;
    int wrong = 0;
    for (int seed = from; seed < from + runs && wrong < 5; seed++) {
      RandomRunsTest run = new RandomRunsTest(seed);
      if (!run.isAlike()) {
        wrong++;
        System.out.println("seed " + seed + ":");
        run.told.forEach(System.out::println);
      }
    }
    System.out.println(runs + " runs, " + wrong + " not as due");
    if (wrong != 0) System.exit(1);
  }

  private boolean isAlike() {
    if (r.nextInt(8) > 0) {
      for (int i = r.nextInt(12); i >= 0; i--) addLine(r.nextInt(3), r.nextInt(5));
      due("build()", x.build(), m.build());
    }
    while (alike && calls < CALLS) {
      step();
      for (int i = r.nextInt(5); i >= 0; i--) ask();
    }
    return alike;
  }

  private void due(String call, long got, long want) {
    calls++;
    // what later calls answer is free
    if (calls > CALLS) return;
    told.add(call + " answered " + got + (got == want ? "" : ", due is " + want));
    if (told.size() > 40) told.removeFirst();
    if (got != want) alike = false;
  }

  /** Mostly from least to most, now and then just or far outside. */
  private int near(int least, int most) {
    int odd = r.nextInt(40);
    if (odd == 0) return least - 1;
    if (odd == 1) return most + 1;
    if (odd == 2) return new int[] {Integer.MIN_VALUE, Integer.MAX_VALUE, -2, -3, 64, 256}[r.nextInt(6)];
    return most < least ? least : (int) (least + r.nextInt((int) Math.min((long) most - least + 1, 100000L)));
  }

  private void step() {
    switch (r.nextInt(12)) {
      case 0: case 1: stepBuild(); break;
      case 2: case 3: case 4: case 5: stepAlarm(); break;
      case 6: case 7: stepFact(); break;
      case 8: stepSilence(); break;
      case 9: stepOwner(); break;
      case 10: stepList(); break;
      default: stepText(); break;
    }
  }

  private void stepText() {
    int n = near(1, 8);
    long w = r.nextLong();
    due("feed(" + n + ", " + w + ")", x.feed(n, w), m.feed(n, w));
    if (r.nextInt(3) > 0) {
      int k = r.nextBoolean() ? 0 : near(0, m.text.length());
      due("cut(" + k + ")", x.cut(k), m.cut(k));
    }
  }

  private void say(String s) {
    if (!m.text.isEmpty() && r.nextInt(20) > 0) due("cut(0)", x.cut(0), m.cut(0));
    int i = 0;
    while (i < s.length()) {
      int n = Math.min(8, s.length() - i);
      long w = r.nextInt();
      for (int k = 0; k < n; k++) w = w << 8 | s.charAt(i + k);
      due("feed(" + n + ", " + w + ") of " + s, x.feed(n, w), m.feed(n, w));
      i += n;
    }
  }

  private String spoilt(String s) {
    if (r.nextInt(5) > 0 || s.isEmpty()) return s;
    int i = r.nextInt(s.length());
    switch (r.nextInt(4)) {
      case 0: return s.substring(0, i);
      case 1: return s.substring(0, i) + s.substring(i + 1);
      case 2: return s.substring(0, i) + "abc*/_.;'@ 019~\n\u00e9\u0000\u007f".charAt(r.nextInt(19)) + s.substring(i);
      default: return s.substring(0, i) + s.substring(i, Math.min(s.length(), i + 3)) + s.substring(i);
    }
  }

  private void stepBuild() {
    int files = flavour < 3 ? 1 : 6;
    if (r.nextInt(3) == 0) {
      addLine(near(0, 5), r.nextInt(4));
    } else if (r.nextInt(4) == 0 || m.draft.size() > 0) {
      int n = r.nextInt(flavour == 1 ? 45 : 6);
      for (int i = 0; i < n; i++) addLine(r.nextInt(files), r.nextInt(5));
    } else {
      // what was there, with some LINES lost, some new and some changed
      for (Model.Line l : m.now) {
        int odd = r.nextInt(12);
        if (odd == 0) continue;
        if (odd == 1) addLine(l.file, 10 + r.nextInt(3));
        addLine(odd == 2 ? r.nextInt(files) : l.file, odd == 3 ? r.nextInt(5) : l.mark);
      }
      if (r.nextInt(3) == 0) addLine(r.nextInt(files), r.nextInt(5));
    }
    if (r.nextInt(flavour == 2 ? 2 : 3) == 0 || m.builds == 0) {
      due("build()", x.build(), m.build());
      for (int i = 0; i < 4 + m.now.size() / 4; i++) {
        int l = near(0, m.now.size() - 1);
        due("partner(" + l + ")", x.partner(l), m.partner(l));
      }
    }
  }

  private void addLine(int file, int mark) {
    due("line(" + file + ", " + mark + ")", x.line(file, mark), m.line(file, mark));
  }

  private void stepAlarm() {
    for (int i = r.nextInt(3); i >= 0; i--) {
      int line = near(0, m.now.size() - 1);
      int kind = flavour == 3 ? near(0, 9) : near(0, 2);
      int wants = r.nextInt(30) == 0 ? near(0, 65535) : 1 << r.nextInt(16) | 1 << r.nextInt(16) | (r.nextBoolean() ? 1 << r.nextInt(4) : 0);
      if (r.nextInt(3) == 0) wants = 1 << r.nextInt(6);
      if (r.nextInt(12) == 0) wants = 0;
      int q = r.nextBoolean() ? near(1, 6) : near(1, 1000);
      int p = near(0, Math.min(Math.max(q, 0), 1000));
      due("alarm(" + line + ", " + kind + ", " + wants + ", " + p + ", " + q + ")", x.alarm(line, kind, wants, p, q),
          m.alarm(line, kind, wants, p, q));
    }
  }

  private void stepFact() {
    int f = near(0, 15);
    if (r.nextInt(3) == 0) {
      int set = r.nextInt(10) == 0 ? near(0, 65535) : 1 << r.nextInt(16) | 1 << r.nextInt(16);
      due("rule(" + set + ", " + f + ")", x.rule(set, f), m.rule(set, f));
    } else {
      boolean is = r.nextInt(3) == 0;
      due("prove(" + f + ", " + is + ")", x.prove(f, is), m.prove(f, is));
    }
  }

  private void stepSilence() {
    if (r.nextInt(6) == 0) {
      int k = near(0, m.silences.size() - 1);
      due("lift(" + k + ")", x.lift(k), m.lift(k));
      return;
    }
    StringBuilder s = new StringBuilder();
    int n = r.nextInt(12) == 0 ? 13 : 1 + r.nextInt(2);
    for (int i = 0; i < n; i++) s.append(n == 13 ? "silence all" + (r.nextInt(40) == 0 ? " kind 1;" : ";") : oneSilence());
    String text = spoilt(s.toString());
    say(text.substring(0, Math.min(160, text.length())));
    due("silence() of " + m.text, x.silence(), m.silence());
  }

  private String oneSilence() {
    int lines = m.now.size();
    int a = Math.abs(near(0, lines - 1)), b = Math.abs(near(a, lines - 1));
    String[] where = {"line " + a, "lines " + a + " to " + b, "line" + b, "lines " + b + "to" + a, "file " + Math.abs(near(0, 5)),
        "file 01", "line 00" + a, "all"};
    StringBuilder s = new StringBuilder("silence ").append(where[r.nextInt(r.nextInt(3) == 0 ? 8 : 7)]);
    if (r.nextInt(3) == 0) s.append(" kind ").append(Math.abs(near(0, 9)));
    if (r.nextInt(3) == 0) s.append("until ".indent(r.nextInt(3)).stripTrailing()).append(' ').append(Math.abs(near(Math.max(0, m.builds - 1), 11)));
    if (r.nextInt(3) == 0) s.append(" because '").append("it is;{}~\"as it is, yes so".substring(0, r.nextInt(23))).append("'");
    return s.append(r.nextBoolean() ? ";" : " ; ").toString();
  }

  private String parts(String bytes) {
    StringBuilder s = new StringBuilder();
    int n = r.nextInt(12) == 0 ? 30 : r.nextInt(10);
    for (int i = 0; i < n; i++) s.append(bytes.charAt(r.nextInt(bytes.length())));
    return s.toString();
  }

  private void stepOwner() {
    if (r.nextBoolean()) {
      say(spoilt(parts(r.nextBoolean() ? "ab/" : "aab./_")));
      int file = near(0, 5);
      due("path(" + file + ") of " + m.text, x.path(file), m.path(file));
    } else {
      String[] some = {"**", "*", "**/a", "a/**", "*a", "a*", "**/*b", "*/*", "a/**/b", "**/a/**", "*a*b", "*/**"};
      say(spoilt(r.nextInt(3) > 0 ? some[r.nextInt(some.length)] : parts("ab/*")));
      int owner = near(0, 9);
      due("pattern(" + owner + ") of " + m.text, x.pattern(owner), m.pattern(owner));
    }
    for (int f = 0; f < 6; f++) due("owner(" + f + ")", x.owner(f), m.owner(f));
  }

  private void stepList() {
    due("out()", x.out(), m.out());
    for (int i = 0; i < 3; i++) {
      int k = near(0, m.out.length() - 1);
      due("outByte(" + k + ")", x.outByte(k), m.outByte(k));
    }
    if (r.nextInt(3) == 0) {
      int from = r.nextInt(4) == 0 ? near(0, m.out.length()) : 0;
      int n = r.nextInt(4) == 0 ? near(0, m.out.length()) : m.out.lastIndexOf(';', 160 - m.text.length()) + 1;
      due("back(" + from + ", " + n + ")", x.back(from, n), m.back(from, n));
    } else {
      String[] some = m.out.split(";");
      StringBuilder s = new StringBuilder();
      for (int i = r.nextInt(5); i > 0; i--) {
        String one = some[r.nextInt(some.length)];
        s.append(one.isEmpty() || r.nextInt(5) == 0 ? Math.abs(near(0, 9)) + "@" + Math.abs(near(0, 99)) + " " + r.nextInt(20000) + "/1" : one).append(";");
      }
      String text = spoilt(s.toString());
      say(text.substring(0, Math.min(160, text.length())));
    }
    due("read() of " + m.text, x.read(), m.read());
  }

  private void ask() {
    int alarm = near(0, m.alarms.size() - 1), what = near(0, 9), fact = near(-1, 15), k, i;
    int b = near(0, m.builds - 1), c = near(0, m.builds - 1), s = near(0, m.silences.size() - 1);
    switch (r.nextInt(18)) {
      case 0: case 1: case 2: due("of(" + alarm + ", " + what + ")", x.of(alarm, what), m.of(alarm, what)); break;
      case 3:
        i = near(-1, m.why(alarm, -1) - 1);
        due("why(" + alarm + ", " + i + ")", x.why(alarm, i), m.why(alarm, i));
        break;
      case 4: due("known(" + fact + ")", x.known(fact), m.known(fact)); break;
      case 5: due("closes(" + fact + ", " + alarm + ")", x.closes(fact, alarm), m.closes(fact, alarm)); break;
      case 6: due("groups()", x.groups(), m.groups()); break;
      case 7: case 8:
        k = near(0, m.groups() - 1);
        i = near(-2, m.group(k, -1) - 1);
        due("group(" + k + ", " + i + ")", x.group(k, i), m.group(k, i));
        break;
      case 9:
        what = near(0, 5);
        due("silent(" + s + ", " + what + ")", x.silent(s, what), m.silent(s, what));
        break;
      case 10: due("held(" + s + ")", x.held(s), m.held(s)); break;
      case 11:
        i = near(-1, m.reason(s, -1) - 1);
        due("reason(" + s + ", " + i + ")", x.reason(s, i), m.reason(s, i));
        break;
      case 12:
        k = near(0, m.count(8));
        due("rank(" + k + ")", x.rank(k), m.rank(k));
        break;
      case 13:
        int n = r.nextBoolean() ? near(0, 50) : near(0, 5), most = r.nextBoolean() ? near(0, 50) : near(0, 3);
        due("budget(" + n + ", " + most + ")", x.budget(n, most), m.budget(n, most));
        break;
      case 14:
        k = near(0, m.chosen.size());
        due("chosen(" + k + ")", x.chosen(k), m.chosen(k));
        break;
      case 15:
        what = near(0, 2);
        i = near(-1, m.compare(b, c, what, -1) - 1);
        due("compare(" + b + ", " + c + ", " + what + ", " + i + ")", x.compare(b, c, what, i), m.compare(b, c, what, i));
        break;
      case 16:
        what = near(0, 3);
        due("trend(" + b + ", " + what + ")", x.trend(b, what), m.trend(b, what));
        break;
      default: due("count(" + what + ")", x.count(what), m.count(what)); break;
    }
  }
}
