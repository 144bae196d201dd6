import java.util.ArrayList;
import java.util.Arrays;
import java.util.Comparator;
import java.util.HashSet;
import java.util.LinkedHashMap;
import java.util.List;
import java.util.Map;
import java.util.Set;
import java.util.TreeSet;
import java.util.regex.Matcher;
import java.util.regex.Pattern;

/**
 * The document a second time, in the library's sets, lists and patterns, so that the program can be held
 * against something that shares none of its ways.
 */
final class Model {
  static final int NONE = -1, BAD = -2, ROOM = -4;

  static final class Line {
    int file, mark, before = NONE;
  }

  static final class Told {
    int line, kind, wants, p, q, state;
  }

  static final class Quiet {
    int until = NONE, kind = NONE, form, file = NONE;
    Set<Integer> lines = new TreeSet<>();
    String words = "";
  }

  static final class Snapshot {
    Set<Integer> told = new TreeSet<>();
    int[] counts = new int[4];
  }

  String text = "", out = "";
  List<Line> draft = new ArrayList<>(), now = new ArrayList<>();
  int builds = 0;
  List<Told> alarms = new ArrayList<>();
  List<int[]> rules = new ArrayList<>();
  Set<Integer> proved = new TreeSet<>();
  List<Quiet> silences = new ArrayList<>();
  String[] paths = {"", "", "", "", "", ""};
  List<String> patterns = new ArrayList<>();
  List<Integer> owners = new ArrayList<>();
  List<Integer> chosen = new ArrayList<>();
  List<Snapshot> past = new ArrayList<>();

  private static boolean in(int x, int least, int most) {
    return x >= least && x <= most;
  }

  /** The place of the first byte with which no text can go on, or the end; NONE for a text that is as told. */
  private static int fault(Pattern form, String s) {
    for (int i = 1; i <= s.length(); i++) {
      Matcher m = form.matcher(s.substring(0, i));
      if (!m.matches() && !m.hitEnd()) {
        return i - 1;
      }
    }
    return form.matcher(s).matches() ? NONE : s.length();
  }

  private String take() {
    String s = text;
    text = "";
    return s;
  }

  int feed(int n, long w) {
    if (!in(n, 1, 8)) return BAD;
    if (text.length() + n > 160) return ROOM;
    StringBuilder s = new StringBuilder();
    for (int i = 0; i < n; i++) {
      s.insert(0, (char) (w & 255));
      w >>= 8;
    }
    text += s;
    return text.length();
  }

  int cut(int n) {
    if (!in(n, 0, text.length())) return BAD;
    int gone = text.length() - n;
    text = text.substring(0, n);
    return gone;
  }

  int line(int file, int mark) {
    if (!in(file, 0, 5)) return BAD;
    if (draft.size() == 40) return ROOM;
    Line l = new Line();
    l.file = file;
    l.mark = mark;
    draft.add(l);
    return draft.size();
  }

  private static int most(List<Line> a, List<Line> b, int p, int q, int[][] memo) {
    if (p >= a.size() || q >= b.size()) return 0;
    if (memo[p][q] >= 0) return memo[p][q];
    int best = Math.max(most(a, b, p + 1, q, memo), most(a, b, p, q + 1, memo));
    if (a.get(p).mark == b.get(q).mark) best = Math.max(best, 1 + most(a, b, p + 1, q + 1, memo));
    return memo[p][q] = best;
  }

  private static void match(List<Line> whole, List<Line> later, int file) {
    List<Line> a = new ArrayList<>(whole), b = new ArrayList<>(later);
    a.removeIf(l -> l.file != file);
    b.removeIf(l -> l.file != file);
    int[][] memo = new int[41][41];
    for (int[] row : memo) Arrays.fill(row, -1);
    int p = 0, q = 0;
    while (p < a.size() && q < b.size()) {
      if (a.get(p).mark == b.get(q).mark) {
        b.get(q++).before = whole.indexOf(a.get(p++));
      } else if (most(a, b, p + 1, q, memo) >= most(a, b, p, q + 1, memo)) {
        p++;
      } else {
        q++;
      }
    }
  }

  int build() {
    if (builds == 12) return ROOM;
    if (builds > 0) past.add(snapshot());
    for (int f = 0; f < 6; f++) match(now, draft, f);
    Map<Integer, Integer> later = new LinkedHashMap<>();
    for (int i = 0; i < draft.size(); i++) {
      if (draft.get(i).before != NONE) later.put(draft.get(i).before, i);
    }
    for (Told a : alarms) {
      Integer to = a.state == 0 ? later.get(a.line) : null;
      a.state = to == null ? 2 : 1;
      a.line = to == null ? NONE : to;
    }
    for (Quiet s : silences) {
      Set<Integer> then = new TreeSet<>();
      for (int l : s.lines) if (later.containsKey(l)) then.add(later.get(l));
      s.lines = then;
    }
    now = draft;
    draft = new ArrayList<>();
    return builds++;
  }

  int partner(int line) {
    return in(line, 0, now.size() - 1) ? now.get(line).before : BAD;
  }

  int alarm(int line, int kind, int wants, int p, int q) {
    if (!in(line, 0, now.size() - 1) || !in(kind, 0, 9) || !in(wants, 0, 65535) || !in(q, 1, 1000) || !in(p, 0, q)) return BAD;
    Told it = null;
    for (Told a : alarms) if (a.state < 2 && a.line == line && a.kind == kind) it = a;
    if (it == null) {
      if (alarms.size() == 50) return ROOM;
      it = new Told();
      alarms.add(it);
    }
    it.line = line;
    it.kind = kind;
    it.wants = wants;
    it.p = p;
    it.q = q;
    it.state = 0;
    return alarms.indexOf(it);
  }

  private Set<Integer> knownWith(int fact) {
    Set<Integer> known = new TreeSet<>(proved);
    if (fact != NONE) known.add(fact);
    boolean more = true;
    while (more) {
      more = false;
      for (int[] r : rules) if (known.containsAll(facts(r[0])) && known.add(r[1])) more = true;
    }
    return known;
  }

  private static Set<Integer> facts(int bits) {
    Set<Integer> s = new TreeSet<>();
    for (int i = 0; i < 16; i++) if ((bits >> i & 1) == 1) s.add(i);
    return s;
  }

  private static int bits(Set<Integer> s) {
    return s.stream().mapToInt(i -> 1 << i).sum();
  }

  private boolean closed(Told a, Set<Integer> known) {
    return known.containsAll(facts(a.wants));
  }

  private boolean holds(Quiet s) {
    return s.until == NONE || builds - 1 <= s.until;
  }

  private boolean hasLine(Quiet s, int line) {
    return s.form == 2 || s.form == 1 && now.get(line).file == s.file || s.lines.contains(line);
  }

  private int silencer(Told a) {
    if (a.state != 0) return NONE;
    for (Quiet s : silences) if (holds(s) && hasLine(s, a.line) && (s.kind == NONE || s.kind == a.kind)) return silences.indexOf(s);
    return NONE;
  }

  private boolean open(Told a) {
    return a.state == 0 && !closed(a, knownWith(NONE)) && silencer(a) == NONE;
  }

  private Set<Integer> opens() {
    Set<Integer> s = new TreeSet<>();
    for (int i = 0; i < alarms.size(); i++) if (open(alarms.get(i))) s.add(i);
    return s;
  }

  private Snapshot snapshot() {
    Snapshot s = new Snapshot();
    for (int i = 0; i < alarms.size(); i++) {
      Told a = alarms.get(i);
      if (a.state != 0) continue;
      s.told.add(i);
      s.counts[0]++;
      if (closed(a, knownWith(NONE))) s.counts[1]++;
      if (silencer(a) != NONE) s.counts[2]++;
      if (open(a)) s.counts[3]++;
    }
    return s;
  }

  private Snapshot of(int build) {
    return build == builds - 1 ? snapshot() : past.get(build);
  }

  int of(int alarm, int what) {
    if (!in(alarm, 0, alarms.size() - 1) || !in(what, 0, 9)) return BAD;
    Told a = alarms.get(alarm);
    int n = 0;
    for (int b = 0; b < builds; b++) if (of(b).told.contains(alarm)) n++;
    int owner = a.line == NONE ? NONE : owner(now.get(a.line).file);
    return new int[] {a.line, a.kind, a.wants, a.state, closed(a, knownWith(NONE)) ? 1 : 0, silencer(a), owner, n, a.p, a.q}[what];
  }

  private static int pick(Set<Integer> sorted, int i) {
    if (i == -1) return sorted.size();
    return in(i, 0, sorted.size() - 1) ? new ArrayList<>(new TreeSet<>(sorted)).get(i) : BAD;
  }

  int why(int alarm, int i) {
    if (!in(alarm, 0, alarms.size() - 1)) return BAD;
    Set<Integer> s = facts(alarms.get(alarm).wants);
    s.removeAll(knownWith(NONE));
    return pick(s, i);
  }

  int rule(int set, int head) {
    if (!in(set, 0, 65535) || !in(head, 0, 15)) return BAD;
    if (rules.size() == 20) return ROOM;
    rules.add(new int[] {set, head});
    return rules.size();
  }

  int prove(int fact, boolean is) {
    if (!in(fact, 0, 15)) return BAD;
    if (is) proved.add(fact);
    else proved.remove(fact);
    return bits(knownWith(NONE));
  }

  int known(int fact) {
    return in(fact, -1, 15) ? bits(knownWith(fact)) : BAD;
  }

  int closes(int fact, int alarm) {
    if (!in(fact, 0, 15) || !in(alarm, 0, alarms.size() - 1)) return BAD;
    return closed(alarms.get(alarm), knownWith(fact)) ? 1 : 0;
  }

  private List<Map.Entry<Integer, Set<Integer>>> allGroups() {
    List<Map.Entry<Integer, Set<Integer>>> all = new ArrayList<>();
    Set<Integer> left = opens();
    while (!left.isEmpty()) {
      int best = NONE;
      Set<Integer> most = new TreeSet<>();
      for (int f = 15; f >= 0; f--) {
        Set<Integer> known = knownWith(f);
        Set<Integer> s = new TreeSet<>(left);
        s.removeIf(a -> !closed(alarms.get(a), known));
        if (!s.isEmpty() && s.size() >= most.size()) {
          best = f;
          most = s;
        }
      }
      if (best == NONE) most = new TreeSet<>(left);
      all.add(Map.entry(best, most));
      left.removeAll(most);
    }
    return all;
  }

  int groups() {
    return allGroups().size();
  }

  int group(int k, int i) {
    List<Map.Entry<Integer, Set<Integer>>> all = allGroups();
    if (!in(k, 0, all.size() - 1)) return BAD;
    return i == -2 ? all.get(k).getKey() : pick(all.get(k).getValue(), i);
  }

  private static final Pattern TOKEN = Pattern.compile(" *([a-z]+|[0-9]+|'[ -&(-~]{0,20}'|;)");
  private static final Pattern SILENCES = Pattern.compile("(?:s(?:ln|Lntn|fn|a)(?:kn)?(?:un)?(?:bq)?;)+");
  private static final Map<String, String> LETTERS = Map.of("silence", "s", "line", "l", "lines", "L", "to", "t", "file", "f",
      "all", "a", "kind", "k", "until", "u", "because", "b", ";", ";");

  /** A letter for each token, x for one that can't stand anywhere; then a pattern over letters finds the fault. */
  int silence() {
    String s = take();
    List<String> tokens = new ArrayList<>();
    List<Integer> places = new ArrayList<>();
    StringBuilder letters = new StringBuilder();
    int at = 0;
    Matcher m = TOKEN.matcher(s);
    while (m.region(at, s.length()).lookingAt()) {
      String t = m.group(1);
      letters.append(letterOf(t, letters, tokens));
      tokens.add(t);
      places.add(m.start(1));
      at = m.end();
    }
    while (at < s.length() && s.charAt(at) == ' ') at++;
    places.add(at);
    if (at < s.length()) letters.append('x');
    int fault = fault(SILENCES, letters.toString());
    if (fault != NONE) return -10 - places.get(fault);
    List<Quiet> come = quietOnes(tokens);
    if (silences.size() + come.size() > 12) return ROOM;
    silences.addAll(come);
    return silences.size();
  }

  private String letterOf(String t, StringBuilder letters, List<String> tokens) {
    if (t.charAt(0) == '\'') return "q";
    if (!Character.isDigit(t.charAt(0))) return LETTERS.getOrDefault(t, "x");
    if (t.length() > 6 || letters.length() == 0) return "x";
    int v = Integer.parseInt(t);
    int n = letters.length();
    boolean fine;
    switch (letters.charAt(n - 1)) {
      case 'l': case 'L': fine = v < now.size(); break;
      case 't': fine = v < now.size() && n > 1 && letters.charAt(n - 2) == 'n' && v >= Integer.parseInt(tokens.get(n - 2)); break;
      case 'f': fine = v <= 5; break;
      case 'k': fine = v <= 9; break;
      case 'u': fine = v <= 11 && v >= builds - 1; break;
      default: fine = false;
    }
    return fine ? "n" : "x";
  }

  private static List<Quiet> quietOnes(List<String> tokens) {
    List<Quiet> all = new ArrayList<>();
    for (int i = 0; i < tokens.size(); i++) {
      String next = i + 1 < tokens.size() ? tokens.get(i + 1) : "";
      Quiet last = all.isEmpty() ? null : all.get(all.size() - 1);
      switch (tokens.get(i)) {
        case "silence": all.add(new Quiet()); break;
        case "line": last.lines.add(Integer.parseInt(next)); break;
        case "lines":
          for (int l = Integer.parseInt(next); l <= Integer.parseInt(tokens.get(i + 3)); l++) last.lines.add(l);
          break;
        case "file": last.form = 1; last.file = Integer.parseInt(next); break;
        case "all": last.form = 2; break;
        case "kind": last.kind = Integer.parseInt(next); break;
        case "until": last.until = Integer.parseInt(next); break;
        case "because": last.words = next.substring(1, next.length() - 1); break;
        default:
      }
    }
    return all;
  }

  int silent(int k, int what) {
    if (!in(k, 0, silences.size() - 1) || !in(what, 0, 5)) return BAD;
    Quiet s = silences.get(k);
    int n = 0;
    for (Told a : alarms) if (silencer(a) == k) n++;
    return new int[] {s.until, s.kind, s.form, s.file, holds(s) ? 1 : 0, n}[what];
  }

  long held(int k) {
    if (!in(k, 0, silences.size() - 1)) return BAD;
    long set = 0;
    for (int l = 0; l < now.size(); l++) if (hasLine(silences.get(k), l)) set += 1L << l;
    return set;
  }

  int reason(int k, int i) {
    if (!in(k, 0, silences.size() - 1)) return BAD;
    String w = silences.get(k).words;
    return i == -1 ? w.length() : in(i, 0, w.length() - 1) ? w.charAt(i) : BAD;
  }

  int lift(int k) {
    if (!in(k, 0, silences.size() - 1)) return BAD;
    silences.remove(k);
    return silences.size();
  }

  private static final Pattern PATH = Pattern.compile("(?:[a-z._]+(?:/[a-z._]+)*)?");
  private static final String PART = "(?:\\*\\*|\\*?(?:[a-z._]+\\*)*[a-z._]+\\*?|\\*)";
  private static final Pattern PATTERN = Pattern.compile(PART + "(?:/" + PART + ")*");

  private static int pathFault(Pattern form, String s) {
    int fault = fault(form, s.substring(0, Math.min(24, s.length())));
    return s.length() > 24 && (fault == NONE || fault == 24) ? 24 : fault;
  }

  int path(int file) {
    String s = take();
    if (!in(file, 0, 5)) return BAD;
    int fault = pathFault(PATH, s);
    if (fault != NONE) return -10 - fault;
    paths[file] = s;
    return s.length();
  }

  int pattern(int owner) {
    String s = take();
    if (!in(owner, 0, 9)) return BAD;
    int fault = pathFault(PATTERN, s);
    if (fault != NONE) return -10 - fault;
    if (patterns.size() == 8) return ROOM;
    patterns.add(s);
    owners.add(owner);
    return patterns.size();
  }

  int owner(int file) {
    if (!in(file, 0, 5)) return BAD;
    String path = paths[file].isEmpty() ? "" : paths[file] + "/";
    for (int i = patterns.size() - 1; i >= 0; i--) {
      StringBuilder form = new StringBuilder();
      for (String part : patterns.get(i).split("/")) {
        form.append(part.equals("**") ? "(?:[^/]+/)*" : part.replace(".", "\\.").replace("*", "[^/]*") + "/");
      }
      if (path.matches(form.toString())) return owners.get(i);
    }
    return NONE;
  }

  private List<Integer> ranks() {
    List<Integer> all = new ArrayList<>(opens());
    all.sort(Comparator.<Integer, Told>comparing(alarms::get, (a, b) -> Integer.compare(b.p * a.q, a.p * b.q))
        .thenComparing(i -> alarms.get(i).line).thenComparing(i -> alarms.get(i).kind));
    return all;
  }

  int rank(int k) {
    if (k < 0) return BAD;
    List<Integer> all = ranks();
    return k < all.size() ? all.get(k) : NONE;
  }

  int budget(int n, int m) {
    if (!in(n, 0, 50) || !in(m, 0, 50)) return BAD;
    chosen = new ArrayList<>();
    for (int a : ranks()) {
      long there = chosen.stream().filter(c -> fileOf(c) == fileOf(a)).count();
      if (chosen.size() < n && there < m) chosen.add(a);
    }
    return chosen.size();
  }

  private int fileOf(int alarm) {
    return now.get(alarms.get(alarm).line).file;
  }

  int chosen(int i) {
    return i < 0 ? BAD : i < chosen.size() ? chosen.get(i) : NONE;
  }

  int compare(int first, int second, int what, int i) {
    if (!in(first, 0, builds - 1) || !in(second, 0, builds - 1) || !in(what, 0, 2)) return BAD;
    Set<Integer> a = new HashSet<>(of(first).told), b = new HashSet<>(of(second).told);
    Set<Integer> s = new TreeSet<>(what == 1 ? a : b);
    if (what == 0) s.removeAll(a);
    if (what == 1) s.removeAll(b);
    if (what == 2) s.retainAll(a);
    return pick(s, i);
  }

  int trend(int build, int what) {
    return in(build, 0, builds - 1) && in(what, 0, 3) ? of(build).counts[what] : BAD;
  }

  int out() {
    List<Told> all = new ArrayList<>(alarms);
    all.removeIf(a -> a.state != 0);
    all.sort(Comparator.comparingInt((Told a) -> a.line * 10 + a.kind));
    out = "";
    for (Told a : all) out += a.kind + "@" + a.line + " " + a.p + "/" + a.q + ";";
    return out.length();
  }

  int outByte(int i) {
    return in(i, 0, out.length() - 1) ? out.charAt(i) : NONE;
  }

  int back(int i, int n) {
    if (i < 0 || n < 0 || (long) i + n > out.length()) return BAD;
    if (text.length() + n > 160) return ROOM;
    text += out.substring(i, i + n);
    return text.length();
  }

  private static final String NUMBER = "(?:0|[1-9][0-9]{0,3})";
  private static final Pattern LIST = Pattern.compile(("(?:#@# #/#;)*").replace("#", NUMBER));

  int read() {
    String s = take();
    int fault = fault(LIST, s);
    if (fault != NONE) return -10 - fault;
    Set<String> told = new HashSet<>();
    for (Told a : alarms) if (a.state == 0) told.add(a.kind + "@" + a.line + " " + a.p + "/" + a.q);
    int n = 0;
    for (String one : s.split(";")) if (told.contains(one)) n++;
    return n;
  }

  int count(int what) {
    if (!in(what, 0, 9)) return BAD;
    return new int[] {builds, now.size(), alarms.size(), rules.size(), silences.size(), patterns.size(), text.length(),
        draft.size(), opens().size(), out.length()}[what];
  }
}
