/** Counts the answers that are not as due, and says which they are. */
final class Check {
  private int wrong = 0;
  private int asked = 0;

  void due(String call, long got, long want) {
    asked++;
    if (got != want) {
      wrong++;
      System.out.println(call + " answered " + got + ", due is " + want);
    }
  }

  void holds(String what, boolean is) {
    due(what, is ? 1 : 0, 1);
  }

  void end() {
    System.out.println(asked + " answers, " + wrong + " not as due");
    if (wrong != 0 || asked == 0) {
      System.exit(1);
    }
  }

  /** Feeds a text, at most eight bytes a call. */
  static void say(AlarmGroups x, String text) {
    for (int i = 0; i < text.length(); i += 8) {
      String piece = text.substring(i, Math.min(i + 8, text.length()));
      long w = 0;
      for (int k = 0; k < piece.length(); k++) {
        w = w << 8 | piece.charAt(k);
      }
      x.feed(piece.length(), w);
    }
  }

  /** A BUILD more, of LINES told as FILE, MARK, FILE, MARK .. */
  static int build(AlarmGroups x, int... filesAndMarks) {
    for (int i = 0; i < filesAndMarks.length; i += 2) {
      x.line(filesAndMarks[i], filesAndMarks[i + 1]);
    }
    return x.build();
  }

  static int silence(AlarmGroups x, String text) {
    say(x, text);
    return x.silence();
  }

  static int path(AlarmGroups x, int file, String text) {
    say(x, text);
    return x.path(file);
  }

  static int pattern(AlarmGroups x, int owner, String text) {
    say(x, text);
    return x.pattern(owner);
  }

  static int read(AlarmGroups x, String text) {
    say(x, text);
    return x.read();
  }

  static String outText(AlarmGroups x) {
    StringBuilder s = new StringBuilder();
    int n = x.out();
    for (int i = 0; i < n; i++) {
      s.append((char) x.outByte(i));
    }
    return s.toString();
  }

  static String reason(AlarmGroups x, int k) {
    StringBuilder s = new StringBuilder();
    int n = x.reason(k, -1);
    for (int i = 0; i < n; i++) {
      s.append((char) x.reason(k, i));
    }
    return s.toString();
  }
}
