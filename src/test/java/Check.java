import java.util.function.IntToLongFunction;

/** Counts the answers that are not as due, and says which they are. */
final class Check {
  static final int NONE = -1, BAD = -2, ROOM = -4;
  static final int LEAST = Integer.MIN_VALUE, GREATEST = Integer.MAX_VALUE;

  private int wrong = 0;
  private int asked = 0;
  private String sentence = "";
  private int askedAhead = 0;

  /** What follows tests a sentence of the document: of a promise, or of the Terms and what is ahead of them (0). */
  void sentence(int promise, String words) {
    endSentence();
    sentence = "[" + promise + ": " + words + "] ";
    askedAhead = asked;
  }

  private void endSentence() {
    if (!sentence.isEmpty() && asked == askedAhead) {
      wrong++;
      System.out.println(sentence + "nothing was asked");
    }
  }

  void due(String call, long got, long want) {
    asked++;
    if (got != want) {
      wrong++;
      System.out.println(sentence + call + " answered " + got + ", due is " + want);
    }
  }

  void holds(String what, boolean is) {
    due(what, is ? 1 : 0, 1);
  }

  void same(String what, String got, String want) {
    asked++;
    if (!got.equals(want)) {
      wrong++;
      System.out.println(sentence + what + " is \"" + got + "\", due is \"" + want + "\"");
    }
  }

  /** One call with each of several numbers, all with the same answer due. */
  void each(String call, IntToLongFunction f, long want, int... numbers) {
    for (int n : numbers) {
      due(call + " with " + n, f.applyAsLong(n), want);
    }
  }

  void end() {
    endSentence();
    System.out.println(asked + " answers, " + wrong + " not as due");
    if (wrong != 0 || asked == 0) {
      System.exit(1);
    }
  }

  static int fault(int place) {
    return -10 - place;
  }

  /** Feeds a text, at most eight bytes a call. */
  static void say(AlarmGroups x, String text) {
    for (int i = 0; i < text.length(); i += 8) {
      String piece = text.substring(i, Math.min(i + 8, text.length()));
      long w = 0;
      for (int k = 0; k < piece.length(); k++) {
        w = w << 8 | piece.charAt(k);
      }
      x.feed(piece.length(), w);
    }
  }

  /** A BUILD more, of LINES told as FILE, MARK, FILE, MARK .. */
  static int build(AlarmGroups x, int... filesAndMarks) {
    for (int i = 0; i < filesAndMarks.length; i += 2) {
      x.line(filesAndMarks[i], filesAndMarks[i + 1]);
    }
    return x.build();
  }

  /** A new object with one BUILD. */
  static AlarmGroups built(int... filesAndMarks) {
    AlarmGroups x = new AlarmGroups();
    build(x, filesAndMarks);
    return x;
  }

  /** LINES of FILE 0 with the MARKS 0, 1, 2 .. come behind THE DRAFT. */
  static void lines(AlarmGroups x, int n) {
    for (int i = 0; i < n; i++) {
      x.line(0, i);
    }
  }

  static int silence(AlarmGroups x, String text) {
    say(x, text);
    return x.silence();
  }

  static int path(AlarmGroups x, int file, String text) {
    say(x, text);
    return x.path(file);
  }

  static int pattern(AlarmGroups x, int owner, String text) {
    say(x, text);
    return x.pattern(owner);
  }

  static int read(AlarmGroups x, String text) {
    say(x, text);
    return x.read();
  }

  static String outText(AlarmGroups x) {
    StringBuilder s = new StringBuilder();
    int n = x.out();
    for (int i = 0; i < n; i++) {
      s.append((char) x.outByte(i));
    }
    return s.toString();
  }

  static String reason(AlarmGroups x, int k) {
    StringBuilder s = new StringBuilder();
    int n = x.reason(k, -1);
    for (int i = 0; i < n; i++) {
      s.append((char) x.reason(k, i));
    }
    return s.toString();
  }
}
