import java.lang.management.ManagementFactory;
import java.lang.reflect.Array;
import java.lang.reflect.Field;
import java.lang.reflect.Modifier;
import java.util.Collections;
import java.util.IdentityHashMap;
import java.util.Set;

/** What an object and its calls make: rows stand in the constructor and are small, and no call makes anything. */
public final class VerseYearsRoom {
  private static final int CALLS = 512;
  /** Even if every call of a run made what a new object does, it would still fit into the room of a run. */
  private static final long MOST_PLACES = 7300000 / CALLS;
  private static final long MOST_OBJECTS = 600000 / CALLS;
  /** Less than the smallest object made by one of the calls that are asked twelve times. */
  private static final long MOST_BYTES = 128;
  /** The machine may make something of its own while it is measured, but not each time. */
  private static final int MEASURES = 3;
  private static final long[] TEXTS = {
    0x6D, 0x4D4D, 0x786976, 0x6C6C4C, 0x43, 0x6363, 0x64, 0x7676, 0x58, 0x616263};

  private static int wrong = 0;
  private static long places = 0;

  private static void most(String what, long got, long most) {
    if (got > most) {
      wrong++;
      System.out.println(what + ": " + got + ", at most " + most + " are due");
    }
  }

  public static void main(String[] args) throws IllegalAccessException {
    newObjectIsSmall();
    callsKeepNothing();
    callsMakeNothing();
    if (wrong > 0) System.exit(1);
    System.out.println("the room is kept small");
  }

  private static void newObjectIsSmall() throws IllegalAccessException {
    Set<Object> all = reachedFrom(new VerseYears());
    most("objects and rows of a new object", all.size(), MOST_OBJECTS);
    most("fields and elements of a new object", places, MOST_PLACES);
  }

  private static void callsKeepNothing() throws IllegalAccessException {
    VerseYears x = new VerseYears();
    Set<Object> before = reachedFrom(x);
    useAll(x);
    Set<Object> after = reachedFrom(x);
    after.removeAll(before);
    most("objects and rows that calls have made and kept", after.size(), 0);
  }

  private static void callsMakeNothing() {
    if (!(ManagementFactory.getThreadMXBean() instanceof com.sun.management.ThreadMXBean)) return;
    com.sun.management.ThreadMXBean bean = (com.sun.management.ThreadMXBean) ManagementFactory.getThreadMXBean();
    if (!bean.isThreadAllocatedMemorySupported() || !bean.isThreadAllocatedMemoryEnabled()) return;
    long self = Thread.currentThread().getId();
    useAll(new VerseYears());
    long least = Long.MAX_VALUE;
    for (int k = 0; k < MEASURES; k++) {
      VerseYears x = new VerseYears();
      long before = bean.getThreadAllocatedBytes(self);
      useAll(x);
      least = Math.min(least, bean.getThreadAllocatedBytes(self) - before);
    }
    most("bytes made by calls", least, MOST_BYTES);
  }

  /** Every call, by every counting and custom, with all vocables listed: 500 calls or so. */
  private static void useAll(VerseYears x) {
    for (int k = 0; k < TEXTS.length; k++) {
      x.type(TEXTS[k], TEXTS[k] > 0xFFFF ? 3 : TEXTS[k] > 0xFF ? 2 : 1);
      x.vocable(1 + k % 2, k % 3);
    }
    x.type(0x3F203F3F203F3F3FL, 8);
    x.type(0x2041, 2);
    x.clear();
    x.type(0x3F203F3F203F3F3FL, 8);
    for (int counting = 0; counting < 3; counting++) {
      for (int custom = 0; custom < 4; custom++) useBy(x, counting, custom);
    }
  }

  private static void useBy(VerseYears x, int counting, int custom) {
    x.value(custom, 'b', counting == 0 ? 5 : 10);
    x.order(counting, 7);
    x.worth(counting, custom, 'M', 'm');
    x.sum(counting, custom);
    for (int feet = 1; feet <= 8; feet++) {
      x.many(feet);
      x.lines(feet, 111 * feet, counting, custom);
      x.line(feet, 111, counting, custom, 0, 1);
    }
    x.doubles(5, 111, 111, counting, custom, 3);
    x.fit(0);
    x.readings();
    x.years(counting, custom, 0);
    x.years(counting, custom, 3);
    x.borne(111);
    x.about(counting, custom);
    x.count(custom);
    x.trace();
  }

  /** All that an object holds, by the objects themselves; their fields and elements are counted in places. */
  private static Set<Object> reachedFrom(Object first) throws IllegalAccessException {
    Set<Object> all = Collections.newSetFromMap(new IdentityHashMap<>());
    places = 0;
    reach(first, all);
    return all;
  }

  private static void reach(Object one, Set<Object> all) throws IllegalAccessException {
    if (one == null || !all.add(one)) return;
    if (one.getClass().isArray()) {
      int length = Array.getLength(one);
      places += length;
      if (one.getClass().getComponentType().isPrimitive()) return;
      for (int k = 0; k < length; k++) reach(Array.get(one, k), all);
      return;
    }
    for (Field field : one.getClass().getDeclaredFields()) {
      if (Modifier.isStatic(field.getModifiers())) continue;
      places++;
      if (field.getType().isPrimitive()) continue;
      field.setAccessible(true);
      reach(field.get(one), all);
    }
  }
}
