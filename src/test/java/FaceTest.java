import java.lang.reflect.Constructor;
import java.lang.reflect.Field;
import java.lang.reflect.Method;
import java.lang.reflect.Modifier;
import java.util.Set;
import java.util.TreeSet;

/** The public face, and promise 1: a new object. */
public final class FaceTest {
  private static final Set<String> METHODS = Set.of(
      "int feed(int,long)", "int cut(int)", "int line(int,int)", "int build()", "int partner(int)",
      "int alarm(int,int,int,int,int)", "int of(int,int)", "int why(int,int)", "int rule(int,int)",
      "int prove(int,boolean)", "int known(int)", "int closes(int,int)", "int groups()",
      "int group(int,int)", "int silence()", "int silent(int,int)", "long held(int)",
      "int reason(int,int)", "int lift(int)", "int path(int)", "int pattern(int)", "int owner(int)",
      "int rank(int)", "int budget(int,int)", "int chosen(int)", "int compare(int,int,int,int)",
      "int trend(int,int)", "int out()", "int outByte(int)", "int back(int,int)", "int read()",
      "int count(int)");

  public static void main(String[] args) {
    Check c = new Check();
    face(c);
    newObject(c);
    twoObjectsAreApart(c);
    c.end();
  }

  private static void face(Check c) {
    Class<?> k = AlarmGroups.class;
    c.holds("public and final", Modifier.isPublic(k.getModifiers()) && Modifier.isFinal(k.getModifiers()));
    Set<String> seen = new TreeSet<>();
    Set<String> publicNames = new TreeSet<>();
    for (Method m : k.getDeclaredMethods()) {
      if (!Modifier.isPrivate(m.getModifiers())) {
        StringBuilder s = new StringBuilder(m.getReturnType() + " " + m.getName() + "(");
        for (int i = 0; i < m.getParameterCount(); i++) {
          s.append(i == 0 ? "" : ",").append(m.getParameterTypes()[i]);
        }
        seen.add(s.append(")").toString());
        publicNames.add(m.getName());
        c.holds("public " + m.getName(), Modifier.isPublic(m.getModifiers()) && !Modifier.isStatic(m.getModifiers()));
      }
    }
    c.holds("the methods are " + seen, seen.equals(METHODS));
    for (Method m : k.getDeclaredMethods()) {
      c.holds("private name " + m.getName(), !Modifier.isPrivate(m.getModifiers()) || !publicNames.contains(m.getName()));
    }
    for (Class<?> inner : k.getDeclaredClasses()) {
      c.holds(inner.getName() + " is static", Modifier.isStatic(inner.getModifiers()));
      for (Method m : inner.getDeclaredMethods()) {
        c.holds("name in " + inner.getName() + ": " + m.getName(), !publicNames.contains(m.getName()));
      }
    }
    Set<String> constants = new TreeSet<>();
    for (Field f : k.getDeclaredFields()) {
      if (!Modifier.isPrivate(f.getModifiers())) {
        constants.add(f.getName());
      }
      c.holds(f.getName() + " is no static state", !Modifier.isStatic(f.getModifiers()) || Modifier.isFinal(f.getModifiers()));
    }
    c.holds("the constants are " + constants, constants.equals(Set.of("NONE", "BAD", "STATE", "ROOM")));
    Constructor<?>[] all = k.getDeclaredConstructors();
    c.holds("one constructor", all.length == 1 && all[0].getParameterCount() == 0 && Modifier.isPublic(all[0].getModifiers()));
    c.due("NONE", AlarmGroups.NONE, -1);
    c.due("BAD", AlarmGroups.BAD, -2);
    c.due("STATE", AlarmGroups.STATE, -3);
    c.due("ROOM", AlarmGroups.ROOM, -4);
  }

  private static void newObject(Check c) {
    AlarmGroups x = new AlarmGroups();
    for (int what = 0; what < 10; what++) {
      c.due("new: count(" + what + ")", x.count(what), 0);
    }
    c.due("new: known(-1)", x.known(-1), 0);
    c.due("new: groups()", x.groups(), 0);
    c.due("new: rank(0)", x.rank(0), -1);
    c.due("new: chosen(0)", x.chosen(0), -1);
    c.due("new: outByte(0)", x.outByte(0), -1);
    c.due("new: partner(0)", x.partner(0), -2);
    c.due("new: of(0, 0)", x.of(0, 0), -2);
    c.due("new: silent(0, 0)", x.silent(0, 0), -2);
    c.due("new: trend(0, 0)", x.trend(0, 0), -2);
    c.due("new: compare(0, 0, 0, -1)", x.compare(0, 0, 0, -1), -2);
    for (int file = 0; file < 6; file++) {
      c.due("new: owner(" + file + ")", x.owner(file), -1);
    }
    c.due("new: read()", x.read(), 0);
    c.due("new: cut(0)", x.cut(0), 0);
    c.due("new: back(0, 0)", x.back(0, 0), 0);
  }

  private static void twoObjectsAreApart(Check c) {
    AlarmGroups x = new AlarmGroups();
    AlarmGroups y = new AlarmGroups();
    Check.build(x, 0, 1);
    x.alarm(0, 1, 1, 1, 2);
    x.prove(3, true);
    Check.say(x, "abc");
    c.due("apart: builds", y.count(0), 0);
    c.due("apart: alarms", y.count(2), 0);
    c.due("apart: text", y.count(6), 0);
    c.due("apart: known", y.known(-1), 0);
  }
}
