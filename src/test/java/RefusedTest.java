import java.util.function.IntFunction;
import java.util.function.Supplier;

/** Each call with all that it refuses: the answer, the order of refusals, and that nothing has changed but THE TEXT. */
public final class RefusedTest {
  private static final int BAD = Check.BAD, ROOM = Check.ROOM, LEAST = Check.LEAST, GREATEST = Check.GREATEST;

  private interface Call {
    long on(AlarmGroups x);
  }

  private final Check c;
  private final Supplier<AlarmGroups> world;
  private final String asItWas;
  private final String withoutText;

  private RefusedTest(Check c, Supplier<AlarmGroups> world) {
    this.c = c;
    this.world = world;
    asItWas = Seen.all(world);
    withoutText = Seen.all(() -> {
      AlarmGroups x = world.get();
      x.cut(0);
      return x;
    });
  }

  public static void main(String[] args) {
    Check c = new Check();
    worldsAreAsTold(c);
    RefusedTest some = new RefusedTest(c, Worlds::some);
    c.sentence(0, "BAD (a number is not as told, there is no such thing)");
    some.badTexts();
    some.badLines();
    some.badAlarms();
    some.badFacts();
    some.badGroups();
    some.badSilences();
    some.badOwners();
    some.badRanks();
    some.badBuilds();
    some.badLists();
    c.sentence(0, "but THE TEXT (empty behind a call that takes it, whatever it answers)");
    some.faults();
    RefusedTest full = new RefusedTest(c, Worlds::full);
    c.sentence(0, "What is refused changes nothing");
    full.noRoom();
    c.sentence(0, "Of several refusals the first in this order: BAD");
    full.badAheadOfRoom();
    full.faultAheadOfRoom();
    c.sentence(1, "No BUILDS, ALARMS, RULES, SILENCES, PATTERNS");
    new RefusedTest(c, AlarmGroups::new).noSuchThing();
    c.end();
  }

  /** The rows below rest on these. */
  private static void worldsAreAsTold(Check c) {
    c.sentence(33, "0 BUILDS, 1 LINES of NOW (0 without a BUILD), 2 ALARMS, 3 RULES, 4 SILENCES, 5 PATTERNS");
    int[] some = {2, 4, 5, 2, 2, 2, 8, 3, 2, 24};
    int[] full = {12, 40, 50, 20, 12, 8, 160, 40};
    for (int what = 0; what < 10; what++) {
      c.due("some: count(" + what + ")", Worlds.some().count(what), some[what]);
    }
    for (int what = 0; what < 8; what++) {
      c.due("full: count(" + what + ")", Worlds.full().count(what), full[what]);
    }
    c.due("some: read()", Worlds.some().read(), 1);
    c.due("full: read()", Worlds.full().read(), 20);
  }

  private void stays(String name, Call call, long due) {
    c.due(name, call.on(world.get()), due);
    c.same("all behind " + name, behind(call), asItWas);
  }

  private void takes(String name, Call call, long due) {
    c.due(name, call.on(world.get()), due);
    c.same("all behind " + name, behind(call), withoutText);
  }

  private String behind(Call call) {
    return Seen.all(() -> {
      AlarmGroups x = world.get();
      call.on(x);
      return x;
    });
  }

  private void bad(String name, IntFunction<Call> call, int... numbers) {
    for (int n : numbers) {
      stays(name + " with " + n, call.apply(n), BAD);
    }
  }

  private void badTexts() {
    for (long w : new long[] {Long.MIN_VALUE, -1, 0, Long.MAX_VALUE}) {
      bad("feed(n, " + w + ")", n -> x -> x.feed(n, w), LEAST, -8, -1, 0, 9, 64, GREATEST);
    }
    bad("cut(n)", n -> x -> x.cut(n), LEAST, -1, 9, 160, GREATEST);
  }

  private void badLines() {
    for (int mark : new int[] {LEAST, 0, GREATEST}) {
      bad("line(n, " + mark + ")", n -> x -> x.line(n, mark), LEAST, -1, 6, GREATEST);
    }
    bad("partner(n)", n -> x -> x.partner(n), LEAST, -1, 4, 40, GREATEST);
  }

  /** On a LINE and KIND with an ALARM that is TOLD, on one with a CARRIED one, and where a new one would come. */
  private void badAlarms() {
    int[][] places = {{0, 0}, {1, 1}, {2, 0}};
    for (int[] at : places) {
      int line = at[0];
      int kind = at[1];
      bad("alarm, line n", n -> x -> x.alarm(n, kind, 0, 0, 1), LEAST, -1, 4, 40, GREATEST);
      bad("alarm, kind n", n -> x -> x.alarm(line, n, 0, 0, 1), LEAST, -1, 10, GREATEST);
      bad("alarm, wants n", n -> x -> x.alarm(line, kind, n, 0, 1), LEAST, -1, 65536, GREATEST);
      bad("alarm, 0 of n", n -> x -> x.alarm(line, kind, 0, 0, n), LEAST, -1, 0, 1001, GREATEST);
      bad("alarm, n of n", n -> x -> x.alarm(line, kind, 0, n, n), LEAST, -1, 0, 1001, GREATEST);
      bad("alarm, n of 1000", n -> x -> x.alarm(line, kind, 0, n, 1000), LEAST, -1, 1001, GREATEST);
      bad("alarm, n of 1", n -> x -> x.alarm(line, kind, 0, n, 1), LEAST, -1, 2, GREATEST);
    }
    bad("of(n, 0)", n -> x -> x.of(n, 0), LEAST, -1, 5, 50, GREATEST);
    bad("of(0, n)", n -> x -> x.of(0, n), LEAST, -1, 10, GREATEST);
    bad("why(n, -1)", n -> x -> x.why(n, -1), LEAST, -1, 5, GREATEST);
    bad("why(0, n)", n -> x -> x.why(0, n), LEAST, -2, 1, 16, GREATEST);
  }

  private void badFacts() {
    bad("rule(n, 0)", n -> x -> x.rule(n, 0), LEAST, -1, 65536, GREATEST);
    bad("rule(0, n)", n -> x -> x.rule(0, n), LEAST, -1, 16, 32, GREATEST);
    bad("prove(n, true)", n -> x -> x.prove(n, true), LEAST, -1, 16, 32, GREATEST);
    bad("prove(n, false)", n -> x -> x.prove(n, false), LEAST, -1, 16, 33, 36, GREATEST);
    bad("known(n)", n -> x -> x.known(n), LEAST, -2, 16, GREATEST);
    bad("closes(n, 0)", n -> x -> x.closes(n, 0), LEAST, -1, 16, 32, GREATEST);
    bad("closes(0, n)", n -> x -> x.closes(0, n), LEAST, -1, 5, GREATEST);
  }

  private void badGroups() {
    for (int i : new int[] {-2, -1, 0}) {
      bad("group(n, " + i + ")", n -> x -> x.group(n, i), LEAST, -1, 2, 17, GREATEST);
    }
    bad("group(0, n)", n -> x -> x.group(0, n), LEAST, -3, 1, GREATEST);
  }

  private void badSilences() {
    for (int what : new int[] {0, 4, 5}) {
      bad("silent(n, " + what + ")", n -> x -> x.silent(n, what), LEAST, -1, 2, 12, GREATEST);
    }
    bad("silent(0, n)", n -> x -> x.silent(0, n), LEAST, -1, 6, GREATEST);
    bad("held(n)", n -> x -> x.held(n), LEAST, -1, 2, 12, GREATEST);
    bad("reason(n, -1)", n -> x -> x.reason(n, -1), LEAST, -1, 2, GREATEST);
    bad("reason(n, 0)", n -> x -> x.reason(n, 0), LEAST, -1, 2, GREATEST);
    bad("reason(0, n)", n -> x -> x.reason(0, n), LEAST, -2, 2, 20, GREATEST);
    bad("lift(n)", n -> x -> x.lift(n), LEAST, -1, 2, 12, GREATEST);
  }

  private void badOwners() {
    for (String text : new String[] {"", "a/b", "a//"}) {
      for (int n : new int[] {LEAST, -1, 6, GREATEST}) {
        takes("path(" + n + ") of " + text, x -> with(x, text).path(n), BAD);
      }
      for (int n : new int[] {LEAST, -1, 10, GREATEST}) {
        takes("pattern(" + n + ") of " + text, x -> with(x, text).pattern(n), BAD);
      }
    }
    bad("owner(n)", n -> x -> x.owner(n), LEAST, -1, 6, GREATEST);
  }

  private void badRanks() {
    bad("rank(n)", n -> x -> x.rank(n), LEAST, -2, -1);
    bad("budget(n, 1)", n -> x -> x.budget(n, 1), LEAST, -1, 51, GREATEST);
    bad("budget(1, n)", n -> x -> x.budget(1, n), LEAST, -1, 51, GREATEST);
    bad("budget(n, n)", n -> x -> x.budget(n, n), LEAST, -1, 51, GREATEST);
    bad("chosen(n)", n -> x -> x.chosen(n), LEAST, -2, -1);
  }

  private void badBuilds() {
    bad("compare(n, 0, 0, -1)", n -> x -> x.compare(n, 0, 0, -1), LEAST, -1, 2, 12, GREATEST);
    bad("compare(0, n, 0, -1)", n -> x -> x.compare(0, n, 0, -1), LEAST, -1, 2, 12, GREATEST);
    bad("compare(0, 1, n, -1)", n -> x -> x.compare(0, 1, n, -1), LEAST, -1, 3, GREATEST);
    for (int what = 0; what < 3; what++) {
      int w = what;
      bad("compare(0, 1, " + w + ", n)", n -> x -> x.compare(0, 1, w, n), LEAST, -2, 4, 50, GREATEST);
    }
    bad("trend(n, 0)", n -> x -> x.trend(n, 0), LEAST, -1, 2, 12, GREATEST);
    bad("trend(0, n)", n -> x -> x.trend(0, n), LEAST, -1, 4, GREATEST);
    bad("trend(1, n)", n -> x -> x.trend(1, n), LEAST, -1, 4, GREATEST);
  }

  private void badLists() {
    bad("back(n, 0)", n -> x -> x.back(n, 0), LEAST, -1, 25, GREATEST);
    bad("back(n, 1)", n -> x -> x.back(n, 1), LEAST, -1, 24, GREATEST);
    bad("back(0, n)", n -> x -> x.back(0, n), LEAST, -1, 25, GREATEST);
    bad("back(24, n)", n -> x -> x.back(24, n), LEAST, -1, 1, GREATEST);
    bad("back(n, n)", n -> x -> x.back(n, n), LEAST, -1, 13, GREATEST);
    bad("count(n)", n -> x -> x.count(n), LEAST, -1, 10, GREATEST);
    for (int i : new int[] {LEAST, -1, 24, 800, GREATEST}) {
      stays("outByte(" + i + ")", x -> x.outByte(i), Check.NONE);
    }
  }

  private static AlarmGroups with(AlarmGroups x, String text) {
    x.cut(0);
    Check.say(x, text);
    return x;
  }

  private void faults() {
    takes("silence() of a list", AlarmGroups::silence, Check.fault(0));
    takes("path(0) of a list", x -> x.path(0), Check.fault(0));
    takes("pattern(0) of a list", x -> x.pattern(0), Check.fault(0));
    takes("read() of 7 bytes", x -> {
      x.cut(7);
      return x.read();
    }, Check.fault(7));
    takes("silence() of two, the second with a FAULT", x -> with(x, "silence all;silence line 4;").silence(), Check.fault(25));
    takes("silence() of none", x -> with(x, "").silence(), Check.fault(0));
    takes("pattern(0) of none", x -> with(x, "").pattern(0), Check.fault(0));
    takes("path(0) of 25 bytes", x -> with(x, "a".repeat(25)).path(0), Check.fault(24));
    takes("path(0) that ends with /", x -> with(x, "b/").path(0), Check.fault(2));
    takes("pattern(9) of 25 bytes", x -> with(x, "a".repeat(25)).pattern(9), Check.fault(24));
    takes("read()", AlarmGroups::read, 1);
  }

  private void noRoom() {
    for (int n = 1; n <= 8; n++) {
      int bytes = n;
      stays("feed(" + n + ")", x -> x.feed(bytes, -1), ROOM);
    }
    stays("line", x -> x.line(0, 0), ROOM);
    stays("line", x -> x.line(5, GREATEST), ROOM);
    stays("build", AlarmGroups::build, ROOM);
    stays("alarm", x -> x.alarm(39, 0, 0, 1, 1), ROOM);
    stays("rule", x -> x.rule(0, 0), ROOM);
    stays("back", x -> x.back(0, 1), ROOM);
    takes("silence", x -> with(x, "silence all;").silence(), ROOM);
    takes("silence, two", x -> with(x, "silence file 0 because 'no';silence all;").silence(), ROOM);
    takes("pattern", x -> with(x, "**").pattern(9), ROOM);
  }

  private void badAheadOfRoom() {
    bad("feed(n, 0)", n -> x -> x.feed(n, 0), LEAST, 0, 9, GREATEST);
    bad("line(n, 0)", n -> x -> x.line(n, 0), LEAST, -1, 6, GREATEST);
    bad("alarm, line n", n -> x -> x.alarm(n, 0, 0, 0, 1), LEAST, -1, 40, GREATEST);
    bad("alarm, kind n", n -> x -> x.alarm(39, n, 0, 0, 1), LEAST, -1, 10, GREATEST);
    bad("alarm, wants n", n -> x -> x.alarm(39, 0, n, 0, 1), LEAST, -1, 65536, GREATEST);
    bad("alarm, n of 7", n -> x -> x.alarm(39, 0, 0, n, 7), LEAST, -1, 8, GREATEST);
    bad("alarm, 0 of n", n -> x -> x.alarm(39, 0, 0, 0, n), LEAST, 0, 1001, GREATEST);
    bad("rule(n, 0)", n -> x -> x.rule(n, 0), LEAST, -1, 65536, GREATEST);
    bad("rule(0, n)", n -> x -> x.rule(0, n), LEAST, -1, 16, GREATEST);
    bad("back(n, 1)", n -> x -> x.back(n, 1), LEAST, -1, 800, GREATEST);
    bad("back(0, n)", n -> x -> x.back(0, n), LEAST, -1, 801, GREATEST);
    for (int n : new int[] {LEAST, -1, 10, GREATEST}) {
      takes("pattern(" + n + ")", x -> with(x, "a").pattern(n), BAD);
      takes("pattern(" + n + ") with a FAULT, too", x -> with(x, "a/").pattern(n), BAD);
    }
    for (int n : new int[] {LEAST, -1, 6, GREATEST}) {
      takes("path(" + n + ") with a FAULT, too", x -> with(x, "a/").path(n), BAD);
    }
  }

  private void faultAheadOfRoom() {
    takes("silence", x -> with(x, "silence all").silence(), Check.fault(11));
    takes("silence, the second with a FAULT", x -> with(x, "silence all;silence file 6;").silence(), Check.fault(25));
    takes("pattern", x -> with(x, "**a").pattern(0), Check.fault(2));
    takes("pattern of none", x -> with(x, "").pattern(0), Check.fault(0));
  }

  /** Of a new object, the first of each. */
  private void noSuchThing() {
    bad("cut(n)", n -> x -> x.cut(n), -1, 1);
    bad("partner(n)", n -> x -> x.partner(n), -1, 0);
    bad("alarm, line n", n -> x -> x.alarm(n, 0, 0, 0, 1), -1, 0);
    bad("of(n, 0)", n -> x -> x.of(n, 0), -1, 0);
    bad("why(n, -1)", n -> x -> x.why(n, -1), -1, 0);
    bad("closes(0, n)", n -> x -> x.closes(0, n), -1, 0);
    bad("group(n, -1)", n -> x -> x.group(n, -1), -1, 0);
    bad("group(n, -2)", n -> x -> x.group(n, -2), -1, 0);
    bad("silent(n, 0)", n -> x -> x.silent(n, 0), -1, 0);
    bad("held(n)", n -> x -> x.held(n), -1, 0);
    bad("reason(n, -1)", n -> x -> x.reason(n, -1), -1, 0);
    bad("lift(n)", n -> x -> x.lift(n), -1, 0);
    bad("compare(n, n, 2, -1)", n -> x -> x.compare(n, n, 2, -1), -1, 0);
    bad("trend(n, 0)", n -> x -> x.trend(n, 0), -1, 0);
    bad("back(0, n)", n -> x -> x.back(0, n), -1, 1);
    bad("back(n, 0)", n -> x -> x.back(n, 0), -1, 1);
  }
}
