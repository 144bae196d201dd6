/** Objects in which there is something of all that can be asked; made by the same calls each time. */
final class Worlds {
  /** Two BUILDS; THE TEXT is a list of one ALARM that is TOLD; nothing is full. */
  static AlarmGroups some() {
    AlarmGroups x = Check.built(0, 1, 0, 2, 0, 3, 1, 1, 1, 2);
    for (int i = 0; i < 4; i++) {
      x.alarm(i, i, 1 << i, 1, 2);
    }
    Check.build(x, 0, 1, 0, 2, 0, 9, 1, 1);
    x.alarm(0, 0, 1, 1, 2);
    x.alarm(3, 3, 8, 1, 3);
    x.alarm(2, 5, 6, 2, 3);
    x.rule(1 << 4, 5);
    x.rule(1 << 1 | 1 << 2, 3);
    x.prove(4, true);
    x.prove(1, true);
    Check.silence(x, "silence line 3 kind 3 until 4 because 'ok';silence file 5;");
    Check.path(x, 0, "a/b");
    Check.path(x, 1, "c");
    Check.pattern(x, 3, "a/*");
    Check.pattern(x, 0, "c");
    x.out();
    x.budget(2, 1);
    x.line(0, 2);
    x.line(0, 9);
    x.line(1, 1);
    Check.say(x, "0@0 1/2;");
    return x;
  }

  /** 12 BUILDS, 40 LINES in NOW and in THE DRAFT, 50 ALARMS, 20 RULES, 12 SILENCES, 8 PATTERNS, 160 bytes. */
  static AlarmGroups full() {
    AlarmGroups x = new AlarmGroups();
    for (int b = 0; b < 10; b++) {
      x.build();
    }
    fillAlarms(x);
    for (int i = 0; i < 40; i++) {
      x.line(i % 6, i + 1);
    }
    for (int i = 0; i < 20; i++) {
      x.rule(1 << i % 16 | 1 << (i + 1) % 16, (i + 2) % 16);
    }
    x.prove(3, true);
    x.prove(9, true);
    Check.silence(x, "silence line 39 because 'x';silence file 5 kind 9;silence lines 7 to 9;silence all kind 3;");
    Check.silence(x, "silence line 3 until 11;silence file 2 kind 0;silence lines 1 to 1;silence file 1 kind 3;");
    Check.silence(x, "silence line 4;silence line 5;silence line 6 because '';silence all kind 8 because 'last';");
    for (int i = 0; i < 6; i++) {
      Check.path(x, i, "a/" + (char) ('a' + i));
    }
    for (int i = 0; i < 8; i++) {
      Check.pattern(x, i, i < 6 ? "a/" + (char) ('a' + i) : "b");
    }
    x.out();
    x.budget(50, 50);
    for (int i = 0; i < 20; i++) {
      int line = i % 10;
      Check.say(x, "9@" + line + " 1/" + (2 + line % 8) + ";");
    }
    return x;
  }

  private static void fillAlarms(AlarmGroups x) {
    for (int i = 0; i < 5; i++) {
      x.line(i, i);
    }
    x.build();
    for (int i = 0; i < 10; i++) {
      x.alarm(i / 2, i % 2, 1 << i, 1, 2);
    }
    for (int i = 0; i < 40; i++) {
      x.line(i % 6, i);
    }
    x.build();
    for (int i = 0; i < 5; i++) {
      x.alarm(i / 2, i % 2, 1 << i, 1, 3);
    }
    for (int i = 0; i < 40; i++) {
      x.alarm(i, 9, 1 << i % 16 | 1 << i % 5, 1, i < 10 ? 2 + i % 8 : 100 + i);
    }
  }
}
