import com.sun.management.ThreadMXBean;
import java.lang.management.ManagementFactory;

/**
 * Runs of the calls that make most stay far below the room that all objects and their fields have. Bytes are looked
 * at, for they can be asked: an object has no fewer than 16, a field or element no fewer than 4.
 */
final class RoomTest {
  /** What makes the scene ahead of them is within the 512 of an object, too. */
  private static final int CALLS = 480;
  private static final long OBJECTS = 600_000;
  private static final long ELEMENTS = 7_300_000;
  /** So many such runs would have room at once. */
  private static final int RUNS = 20;
  private static final ThreadMXBean THREADS = threads();

  public static void main(String[] args) {
    if (THREADS == null || !THREADS.isThreadAllocatedMemorySupported()) {
      System.out.println("RoomTest: this machine does not tell what a run makes");
      return;
    }
    fits("realms that come and go", run(RoomTest::realms));
    fits("tables that come and go", run(RoomTest::tables));
    fits("contexts that come and go", run(RoomTest::contexts));
    nothing("digests", run(RoomTest::digests) - run(RoomTest::scene));
    nothing("what is told", run(RoomTest::told) - run(RoomTest::scene));
    Due.end("RoomTest");
  }

  private static ThreadMXBean threads() {
    return ManagementFactory.getThreadMXBean() instanceof ThreadMXBean bean ? bean : null;
  }

  private static long run(Runnable calls) {
    // once ahead: what the machine makes as it first uses a class is not the run's
    calls.run();
    long before = THREADS.getCurrentThreadAllocatedBytes();
    calls.run();
    return THREADS.getCurrentThreadAllocatedBytes() - before;
  }

  private static void fits(String what, long bytes) {
    Due.yes(what + ": " + RUNS + " runs fit, at " + bytes + " bytes a run",
        bytes / 16 * RUNS <= OBJECTS && bytes / 4 * RUNS <= ELEMENTS);
  }

  /** The calls themselves make nothing; the machine's own notes may be seen. */
  private static void nothing(String what, long bytes) {
    Due.yes(what + " make nothing, but " + bytes + " bytes", bytes < 2 * CALLS);
  }

  private static GranuleHall hall() {
    GranuleHall hall = new GranuleHall(96);
    for (int g = 0; g < 7; g++) hall.delegate(g);
    return hall;
  }

  private static void realms() {
    GranuleHall hall = hall();
    for (int i = 0; i < CALLS / 2; i++) {
      hall.create(0, 1);
      hall.destroy(0);
    }
  }

  private static void tables() {
    GranuleHall hall = hall();
    hall.create(0, 1);
    for (int i = 0; i < CALLS / 2; i++) {
      hall.table(0, 2, 0, 1);
      hall.untable(0, 0, 1);
    }
  }

  private static void contexts() {
    GranuleHall hall = hall();
    hall.create(0, 1);
    for (int i = 0; i < CALLS / 2; i++) {
      hall.rec(2, 0, 90);
      hall.end(2);
    }
  }

  private static GranuleHall scene() {
    GranuleHall hall = hall();
    hall.create(0, 1);
    for (int level = 1; level <= 3; level++) hall.table(0, 1 + level, 0, level);
    hall.ripas(0, 5);
    hall.data(0, 5, 5, 90);
    hall.store(90, 8, 1);
    hall.rec(6, 0, 90);
    hall.activate(0);
    hall.enter(6, 91);
    return hall;
  }

  private static void digests() {
    GranuleHall hall = scene();
    for (int i = 0; i < CALLS / 4; i++) {
      hall.attest(5);
      hall.extend(1 + i % 4);
      hall.call(5);
      hall.enter(6, 91);
    }
  }

  private static void told() {
    GranuleHall hall = scene();
    for (int i = 0; i < CALLS / 8; i++) {
      hall.astray();
      hall.count(i % 11);
      hall.realm(0, i % 7);
      hall.walk(0, i, 3, i % 4);
      hall.context(6, i % 14);
      hall.measured(0, i % 5, i % 8);
      hall.granule(i, i % 3);
      hall.status();
    }
  }
}
