import java.lang.reflect.Constructor;
import java.lang.reflect.Field;
import java.lang.reflect.Method;
import java.lang.reflect.Modifier;
import java.util.ArrayList;
import java.util.Collections;
import java.util.List;

/** The public face, and promise 1. */
public final class FaceTest {
  private static final String FACE =
      "about/2 aim/3 best/1 body/2 bring/2 carry/2 cell/3 closes/2 comes/2 copy/5 count/1 element/2 far/2 fault/1 "
      + "force/2 found/2 go/1 group/3 heat/2 holds/3 image/0 judge/2 keep/3 post/1 pushed/2 put/3 record/2 restore/0 "
      + "rides/2 round/2 row/3 schools/2 sign/2 slot/3 stands/3 stray/4 sure/1 text/1 toss/1 unaim/1 was/2 water/2 "
      + "wave/2 way/3 weight/1 whose/1 worst/3 wrong/1";

  public static void main(String[] args) throws Exception {
    Check check = new Check("FaceTest");
    face(check);
    privateNames(check);
    newObject(check);
    check.end();
  }

  private static void face(Check check) {
    Class<?> type = TentPlain.class;
    check.due("public final", Modifier.isPublic(type.getModifiers()) && Modifier.isFinal(type.getModifiers()) ? 1 : 0, 1);
    List<String> names = new ArrayList<>();
    for (Method m : type.getDeclaredMethods()) {
      if (Modifier.isPrivate(m.getModifiers())) continue;
      names.add(m.getName() + "/" + m.getParameterCount());
      check.due(m.getName() + " is public alone", m.getModifiers(), Modifier.PUBLIC);
      for (Class<?> p : m.getParameterTypes()) check.due(m.getName() + " takes int", p == int.class ? 1 : 0, 1);
      Class<?> answer = m.getName().equals("element") ? long.class : int.class;
      check.due(m.getName() + " answers", m.getReturnType() == answer ? 1 : 0, 1);
      check.due(m.getName() + " throws", m.getExceptionTypes().length, m.getName().equals("element") ? 2 : 0);
    }
    Collections.sort(names);
    check.due("the face: " + names, String.join(" ", names).equals(FACE) ? 1 : 0, 1);
    for (Field f : type.getDeclaredFields()) {
      check.due("field " + f.getName() + " is private", Modifier.isPrivate(f.getModifiers()) ? 1 : 0, 1);
    }
    Constructor<?>[] made = type.getDeclaredConstructors();
    check.due("constructors", made.length, 1);
    check.due("constructor is public", made[0].getModifiers(), Modifier.PUBLIC);
    check.due("constructor takes", made[0].getParameterCount(), 0);
  }

  private static void privateNames(Check check) {
    List<Class<?>> types = new ArrayList<>();
    types.add(TentPlain.class);
    Collections.addAll(types, TentPlain.class.getDeclaredClasses());
    for (Class<?> type : types) {
      check.due(type.getName() + " fields", countOwn(type) <= 22 ? 1 : 0, 1);
      for (Method m : type.getDeclaredMethods()) {
        boolean ofFace = (" " + FACE).contains(" " + m.getName() + "/");
        boolean isPrivate = Modifier.isPrivate(m.getModifiers());
        check.due(type.getName() + "." + m.getName() + " bears a name of the face", ofFace && isPrivate ? 1 : 0, 0);
        check.due(type.getName() + "." + m.getName() + " takes seven at most", m.getParameterCount() <= 7 ? 1 : 0, 1);
      }
    }
    check.due("classes inside", types.size() <= 14 ? 1 : 0, 1);
  }

  private static int countOwn(Class<?> type) {
    int own = 0;
    for (Field f : type.getDeclaredFields()) {
      if (!Modifier.isStatic(f.getModifiers())) own++;
    }
    return own;
  }

  private static void newObject(Check check) {
    TentPlain x = new TentPlain();
    for (int what = 0; what <= 12; what++) check.due("count(" + what + ")", x.count(what), 0);
    check.due("far", x.far(0, 0), -1);
    check.due("about", x.about(0, 0), -1);
    check.due("body", x.body(0, 0), -1);
    check.due("best", x.best(1), -4);
    check.due("restore", x.restore(), -3);
    for (int d = 0; d < 8; d++) check.due("weight", x.weight(d), -11);
    for (int hour = 0; hour < 24; hour++) check.due("heat", x.heat(hour, 30), 30);
    for (int purpose = 0; purpose < 16; purpose++) check.due("force", x.force(purpose, -1), -4);
    check.due("another object has its own", new TentPlain().cell(0, 0, 0), 0);
    check.due("go", x.go(1), 0);
  }
}
