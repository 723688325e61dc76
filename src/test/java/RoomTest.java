import java.lang.management.ManagementFactory;
import java.lang.reflect.Array;
import java.lang.reflect.Field;
import java.lang.reflect.Modifier;
import java.util.ArrayDeque;
import java.util.Collections;
import java.util.Deque;
import java.util.IdentityHashMap;
import java.util.Set;

/** What an object takes of the room that all calls of a run share, and that calls take no more of it. */
public final class RoomTest {
  private static final Check check = new Check("RoomTest");
  /** The room has some 600,000 objects and 7.3 million elements: a hundred plains are to live in it. */
  private static final int MOST_OBJECTS = 6000;
  private static final int MOST_ELEMENTS = 73000;
  private static final int BYTES_OF_ASKING = 512;

  private static final com.sun.management.ThreadMXBean THREADS =
      (com.sun.management.ThreadMXBean) ManagementFactory.getThreadMXBean();

  private static int objects = 0;
  private static int elements = 0;

  public static void main(String[] args) throws IllegalAccessException {
    TentPlain x = crowded();
    count(x);
    String there = objects + " objects, " + elements + " fields and elements";
    check.due(there + ": objects", objects <= MOST_OBJECTS ? 1 : 0, 1);
    check.due(there + ": elements", elements <= MOST_ELEMENTS ? 1 : 0, 1);
    System.out.println("RoomTest: " + there);
    callAll(x);
    allocated();
    long before = allocated();
    callAll(x);
    long made = allocated() - before;
    check.due("calls made " + made + " bytes", made <= BYTES_OF_ASKING ? 1 : 0, 1);
    check.end();
  }

  private static long allocated() {
    return THREADS.getThreadAllocatedBytes(Thread.currentThread().getId());
  }

  private static TentPlain crowded() {
    TentPlain x = new TentPlain();
    for (int i = 0; i < 16; i++) x.cell(i % 4, i % 10, 5000);
    for (int i = 0; i < 24; i++) x.way(i % 16, (i + 1 + i / 16) % 16, 103 + i % 4);
    for (int i = 0; i < 20; i++) x.group(i % 16, 30 + i, i % 2 * 10 + i % 4);
    for (int i = 0; i < 20; i++) x.aim(i, i, 15 - i % 16);
    for (int i = 0; i < 4; i++) x.stray(i, 0, 9, -1);
    for (int i = 0; i < 4; i++) x.comes(2 + i % 2, 3);
    for (int i = 0; i < 4; i++) x.comes(5, i);
    for (int i = 0; i < 8; i++) x.post(i);
    Check.tell(x, "!(p+q>40|m<9)&h=1|d=2");
    for (int i = 0; i < 16; i++) x.force(i, 0);
    x.row(0, 2, 24);
    x.row(1, 0, 3);
    x.keep(2, 1, 0);
    x.image();
    return x;
  }

  /** All but those that throw to answer: element() and toss() make what is thrown. */
  private static void callAll(TentPlain x) {
    x.restore();
    x.go(60);
    x.worst(0, 3, 20);
    x.best(5);
    for (int g = 0; g < 20; g++) {
      x.was(g, 59);
      x.rides(g, 2);
      x.schools(g, 0);
      for (int what = 0; what < 14; what++) x.body(g, what);
    }
    for (int stray = 20; stray < 24; stray++) {
      x.whose(stray);
      x.sure(stray);
      x.bring(stray, 0);
      x.found(stray, 1);
    }
    for (int cell = 0; cell < 16; cell++) x.wave(cell, 2);
    for (int k = 1; k <= 5; k++) {
      x.round(k, 200);
      x.slot(k, 200, 0);
    }
    for (int purpose = 0; purpose < 16; purpose++) x.force(purpose, 0);
    x.fault(7);
    x.text(7);
    x.holds(0, 0, 0);
    x.judge(1, 100);
    x.wrong(0);
    x.closes(0, 0);
    x.carry(28, 0);
    x.pushed(0, 5);
    x.record(3, 0);
    x.about(0, 7);
    x.far(0, 9);
    x.count(6);
    x.keep(3, 1, 5);
    x.row(4, 1, 80);
    x.put(4, 79, 9);
    x.copy(4, 0, 4, 1, 70);
    x.weight(2);
    x.image();
  }

  private static void count(Object first) throws IllegalAccessException {
    Set<Object> seen = Collections.newSetFromMap(new IdentityHashMap<>());
    Deque<Object> waiting = new ArrayDeque<>();
    waiting.add(first);
    while (!waiting.isEmpty()) {
      Object o = waiting.poll();
      if (!seen.add(o)) continue;
      objects++;
      if (o.getClass().isArray()) {
        elements += Array.getLength(o);
        if (o instanceof Object[] many) for (Object one : many) if (one != null) waiting.add(one);
        continue;
      }
      for (Field f : o.getClass().getDeclaredFields()) {
        if (Modifier.isStatic(f.getModifiers())) continue;
        elements++;
        f.setAccessible(true);
        if (!f.getType().isPrimitive() && f.get(o) != null) waiting.add(f.get(o));
      }
    }
  }
}
