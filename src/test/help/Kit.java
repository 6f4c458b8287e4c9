import java.util.concurrent.Callable;

/** Feeds texts to a pit and compares answers; each test makes one. */
final class Kit {
  LullabyPit pit = new LullabyPit();
  private int wrong = 0;
  private int looked = 0;

  void fresh() {
    pit = new LullabyPit();
  }

  /** Feeds a text, filled up with zeros to twenty bytes; answers its length. */
  int feed(String text) {
    return feed(pit, text);
  }

  static int feed(LullabyPit pit, String text) {
    for (int i = 0; i < text.length(); i += 20) {
      pit.feed(word(text, i), word(text, i + 4), word(text, i + 8), word(text, i + 12), word(text, i + 16));
    }
    return text.length();
  }

  private static int word(String text, int from) {
    int word = 0;
    for (int i = from; i < from + 4; i++) {
      word = word << 8 | (i < text.length() ? text.charAt(i) & 255 : 0);
    }
    return word;
  }

  int pit(String text) {
    return pit.pit(feed(text));
  }

  int law(int which, String text) {
    return pit.law(which, feed(text));
  }

  int work(String text) {
    return pit.work(feed(text));
  }

  int book(String text) {
    return pit.book(feed(text));
  }

  void same(String what, long got, long due) {
    looked++;
    if (got != due) {
      wrong++;
      System.out.println(what + " answered " + got + ", due is " + due);
    }
  }

  void yes(String what, boolean holds) {
    same(what, holds ? 1 : 0, 1);
  }

  void throwing(String what, Class<?> due, Callable<?> call) {
    looked++;
    Object got;
    try {
      got = call.call();
    } catch (Exception e) {
      got = e.getClass();
    }
    if (!due.equals(got)) {
      wrong++;
      System.out.println(what + " answered " + got + ", due is " + due);
    }
  }

  void index(String what, Callable<?> call) {
    throwing(what, IndexOutOfBoundsException.class, call);
  }

  void element(String what, Callable<?> call) {
    throwing(what, java.util.NoSuchElementException.class, call);
  }

  void argument(String what, Callable<?> call) {
    throwing(what, IllegalArgumentException.class, call);
  }

  void end() {
    System.out.println(looked + " answers looked at, " + wrong + " are not as due");
    if (wrong != 0) {
      System.exit(1);
    }
  }
}
