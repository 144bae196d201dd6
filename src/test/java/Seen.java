import java.util.function.IntUnaryOperator;
import java.util.function.Supplier;

/**
 * All that can be asked of an object, as a text. Each part is asked of an object made anew, so that none is used
 * for more calls than the document allows, and so that the last parts may change theirs.
 */
final class Seen {
  private final StringBuilder seen = new StringBuilder();

  static String all(Supplier<AlarmGroups> made) {
    Seen s = new Seen();
    s.counts(made.get());
    for (int from = 0; from < 50; from += 10) {
      s.alarms(made.get(), from);
    }
    s.facts(made.get());
    s.silences(made.get());
    for (int from = 0; from < 12; from += 3) {
      s.builds(made.get(), from);
    }
    s.ranks(made.get());
    for (int from = 0; from < 800; from += 200) {
      s.out(made.get(), from);
    }
    s.text(made.get());
    s.draft(made.get());
    return s.seen.toString();
  }

  private void part(String name) {
    seen.append('\n').append(name);
  }

  private void add(long answer) {
    seen.append(' ').append(answer);
  }

  /** The answers for i = 0, 1 .., and the first that says that there are no more. */
  private void row(IntUnaryOperator f) {
    int answer = 0;
    for (int i = 0; answer >= 0; i++) {
      answer = f.applyAsInt(i);
      add(answer);
    }
  }

  private void counts(AlarmGroups x) {
    part("count");
    for (int what = 0; what < 10; what++) {
      add(x.count(what));
    }
    part("partner");
    for (int i = 0; i < x.count(1); i++) {
      add(x.partner(i));
    }
  }

  private void alarms(AlarmGroups x, int from) {
    for (int a = from; a < Math.min(from + 10, x.count(2)); a++) {
      int alarm = a;
      part("of " + a);
      for (int what = 0; what < 10; what++) {
        add(x.of(a, what));
      }
      row(i -> x.why(alarm, i));
    }
  }

  private void facts(AlarmGroups x) {
    part("known");
    for (int f = -1; f < 16; f++) {
      add(x.known(f));
    }
    int groups = x.groups();
    for (int k = 0; k < groups; k++) {
      int group = k;
      part("group " + k);
      add(x.group(k, -2));
      row(i -> x.group(group, i));
    }
  }

  private void silences(AlarmGroups x) {
    int silences = x.count(4);
    for (int k = 0; k < silences; k++) {
      int silence = k;
      part("silent " + k);
      for (int what = 0; what < 6; what++) {
        add(x.silent(k, what));
      }
      add(x.held(k));
      row(i -> x.reason(silence, i));
    }
  }

  private void builds(AlarmGroups x, int from) {
    for (int b = from; b < Math.min(from + 3, x.count(0)); b++) {
      int build = b;
      part("trend " + b);
      for (int what = 0; what < 4; what++) {
        add(x.trend(b, what));
      }
      row(i -> x.compare(build, build, 2, i));
    }
  }

  private void ranks(AlarmGroups x) {
    part("rank");
    row(x::rank);
    part("chosen");
    row(x::chosen);
    part("owner");
    for (int file = 0; file < 6; file++) {
      add(x.owner(file));
    }
  }

  private void out(AlarmGroups x, int from) {
    part("out from " + from);
    for (int i = from; i < from + 200; i++) {
      add(x.outByte(i));
    }
  }

  /** THE TEXT shows itself when it is read. */
  private void text(AlarmGroups x) {
    part("text");
    add(x.read());
  }

  /** THE DRAFT shows itself when it is a BUILD: its MARKS by PARTNERS, its FILES by a SILENCE of each. */
  private void draft(AlarmGroups x) {
    part("draft");
    x.cut(0);
    add(x.build());
    for (int i = 0; i < x.count(1); i++) {
      add(x.partner(i));
    }
    for (int k = x.count(4) - 1; k >= 0; k--) {
      x.lift(k);
    }
    for (int file = 0; file < 6; file++) {
      Check.silence(x, "silence file " + file + ";");
      add(x.held(file));
    }
  }
}
