import java.lang.management.ManagementFactory;
import java.lang.reflect.Array;
import java.lang.reflect.Field;
import java.lang.reflect.Modifier;
import java.util.ArrayDeque;
import java.util.Collections;
import java.util.Deque;
import java.util.IdentityHashMap;
import java.util.Set;

/** The room of a run: a new object is small, and calls make (next to) nothing. */
public final class RoomTest {
  public static void main(String[] args) throws IllegalAccessException {
    newObject();
    busyRun(new QuayClock());
    long before = allocated();
    QuayClock x = new QuayClock();
    long made = allocated() - before;
    before = allocated();
    busyRun(x);
    long used = allocated() - before;
    Check.due("bytes of a new object below 100000: " + made, made < 100000, true);
    Check.due("bytes of a run's calls below 200000: " + used, used < 200000, true);
    Check.end();
  }

  private static long allocated() {
    return ((com.sun.management.ThreadMXBean) ManagementFactory.getThreadMXBean())
        .getThreadAllocatedBytes(Thread.currentThread().getId());
  }

  /** 512 calls at most, most of them as dear as can be. */
  private static void busyRun(QuayClock x) {
    for (int b = 0; b < 6; b++) {
      x.buyer(0, 1000000);
      x.want(b, 0, 500);
      // 'bid(', 'lot+', '9)*9', 'if 1', '<2; '
      x.feed(0x62696428, 0x6c6f742b, 0x39292a39, 0x69662031, 0x3c323b20);
      x.read(b);
      x.lorry(0, 60, 99999);
    }
    for (int day = 0; day < 3; day++) {
      for (int i = 0; i < 24; i++) {
        x.lot(0, 0, 0, 1 + i % 20, 0);
      }
      x.sale();
      for (int i = 0; i < 120; i++) {
        x.without(i % 6);
      }
      x.day();
    }
  }

  private static void newObject() throws IllegalAccessException {
    Set<Object> seen = Collections.newSetFromMap(new IdentityHashMap<>());
    Deque<Object> open = new ArrayDeque<>();
    QuayClock x = new QuayClock();
    seen.add(x);
    open.add(x);
    long elements = 0;
    while (!open.isEmpty()) {
      Object o = open.remove();
      if (o.getClass().isArray()) {
        elements += Array.getLength(o);
        for (int i = 0; o instanceof Object[] && i < Array.getLength(o); i++) {
          visit(Array.get(o, i), seen, open);
        }
        continue;
      }
      for (Field f : o.getClass().getDeclaredFields()) {
        if (Modifier.isStatic(f.getModifiers())) {
          continue;
        }
        elements++;
        f.setAccessible(true);
        if (!f.getType().isPrimitive()) {
          visit(f.get(o), seen, open);
        }
      }
    }
    System.out.println("a new object: " + seen.size() + " objects, " + elements + " elements");
    Check.due("objects below 1000: " + seen.size(), seen.size() < 1000, true);
    Check.due("elements below 14000: " + elements, elements < 14000, true);
  }

  private static void visit(Object o, Set<Object> seen, Deque<Object> open) {
    if (o != null && seen.add(o)) {
      open.add(o);
    }
  }
}
