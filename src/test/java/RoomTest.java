import java.lang.management.ManagementFactory;

/** What a run makes stays far below the room of one run: 600,000 objects, 7.3 million elements. */
public final class RoomTest {
  // An object is good for 512 calls; some 60 make it ready.
  private static final int CALLS = 450;
  // In bytes: less than 16 for each object and 8 for each element of a hundredth of the room.
  private static final long MOST_BYTES = 300_000;

  private static final com.sun.management.ThreadMXBean BEAN =
      (com.sun.management.ThreadMXBean) ManagementFactory.getThreadMXBean();

  interface Call {
    void on(LullabyPit pit);
  }

  private static final Kit kit = new Kit();

  private static LullabyPit deepest() {
    LullabyPit pit = new LullabyPit();
    pit.pit(Kit.feed(pit, "size 8 6;seam 0 0 8 6 1 9;shaft 0;shaft 3;shaft 5;shaft 7;crew 9;store 20;"
        + "order 1 1 1 1 1 1 1 1 1 end;order 2 1 end;order 3 2 end;order 4 3 end;order 5 4 end;order 6 1 end;"));
    String long150 = "0 + wide * 0" + " + least[props,most[over,bars*0]]*0".repeat(3) + " + shift / 200";
    pit.law(0, Kit.feed(pit, long150));
    for (int y = 0; y < 3; y++) {
      StringBuilder s = new StringBuilder();
      for (int x = 0; x < 8; x += 1) {
        s.append("dig ").append(x).append(' ').append(y).append(";");
      }
      pit.work(Kit.feed(pit, s.append("shift;").toString()));
    }
    return pit;
  }

  private static void within(String name, Call call) {
    within(name, 1, call);
  }

  private static void within(String name, int callsEach, Call call) {
    LullabyPit warm = deepest();
    call.on(warm);
    long before = BEAN.getThreadAllocatedBytes(Thread.currentThread().getId());
    LullabyPit pit = deepest();
    for (int i = 0; i < CALLS / callsEach; i++) {
      call.on(pit);
    }
    long made = BEAN.getThreadAllocatedBytes(Thread.currentThread().getId()) - before;
    kit.yes(CALLS + " calls of " + name + " make " + made + " bytes", made < MOST_BYTES);
  }

  public static void main(String[] args) {
    kit.same("OPEN", deepest().sums(2), 24);
    within("best", p -> p.best(3, 1));
    within("hold", p -> p.hold(1));
    within("way", p -> p.way(7, 5, 1));
    within("fill", p -> p.fill(1));
    within("next", p -> p.next(1));
    within("owners", p -> p.owners(1, 20, 0));
    within("decade", p -> p.decade(1, 3, 40, 0));
    within("risks", p -> p.risks(0, 3));
    within("image and restore", 2, p -> {
      p.image();
      p.restore();
    });
    within("work and undo", 3, p -> {
      p.feed(0x7368_6966, 0x743b_2020, 0, 0, 0);
      p.work(6);
      p.undo();
    });
    within("pit", p -> p.pit(0));
    LullabyPit p = deepest();
    long begun = System.nanoTime();
    for (int i = 0; i < 20; i++) {
      p.span(i, 20, 3, 40, 0);
      p.best(3, 0);
    }
    System.out.println("20 calls of span and best took " + (System.nanoTime() - begun) / 1_000_000 + " ms");
    kit.end();
  }
}
