import java.util.NoSuchElementException;

/**
 * Every refused call, each on a pit of its own: it throws what the document names, is counted once and by its
 * reason, and changes nothing; and every call that only asks changes nothing.
 */
public final class RefusalTest {
  private static final Class<?> INDEX = IndexOutOfBoundsException.class;
  private static final Class<?> ELEMENT = NoSuchElementException.class;
  private static final Class<?> ARGUMENT = IllegalArgumentException.class;
  private static final int LEAST = Integer.MIN_VALUE;
  private static final int MOST = Integer.MAX_VALUE;

  private static final Kit kit = new Kit();

  interface Call {
    Object on(LullabyPit pit);
  }

  public static void main(String[] args) {
    texts();
    cells();
    ordersAndKinds();
    surveys();
    columns();
    games();
    noneOfOthers();
    asked();
    kit.end();
  }

  /** 4 by 3, with something of all: WORKS to undo, an IMAGE, a BOOK, LAWS, refused STEPS, a FAULT, 40 bytes. */
  private static LullabyPit busy() {
    kit.fresh();
    kit.pit("size 4 3;seam 0 0 4 1 1 2;seam 1 1 2 1 2 5;seam 3 1 1 1 3 9;water 0 2;shaft 1;crew 3;store 2;"
        + "price 2 4;price 3 7;order 1 1 2 end;order 9 2 2 2 end;");
    kit.law(0, "wide - 3");
    kit.law(1, "kind * 3 + deep");
    kit.work("dig 1 0;dig 1 1;prop 1 1;shift;dig 2 0;");
    kit.pit.image();
    kit.work("dig 3 0;sell 2 1;pump;");
    kit.book("0 0;9 9;");
    kit.book("1 0;");
    kit.law(0, "wide -");
    kit.pit.feed(0x70756d70, 0x3b202020, 0, 0, 0);
    kit.pit.feed(0, 0, 0, 0, 0);
    return kit.pit;
  }

  private static void refused(String name, Class<?> due, Call call) {
    LullabyPit pit = busy();
    String before = Snapshot.of(pit);
    kit.throwing(name, due, () -> call.on(pit));
    kit.yes(name + " changes nothing", before.equals(Snapshot.of(pit)));
    kit.same(name + " is counted by IndexOutOfBoundsException", pit.status(0), due == INDEX ? 1 : 0);
    kit.same(name + " is counted by NoSuchElementException", pit.status(1), due == ELEMENT ? 1 : 0);
    kit.same(name + " is counted by IllegalArgumentException", pit.status(2), due == ARGUMENT ? 1 : 0);
  }

  private static void texts() {
    for (int n : new int[] {LEAST, -1, 41, 601, MOST}) {
      refused("3: pit " + n, ARGUMENT, p -> p.pit(n));
      refused("4: law 0 " + n, ARGUMENT, p -> p.law(0, n));
      refused("4: law 1 " + n, ARGUMENT, p -> p.law(1, n));
      refused("5: work " + n, ARGUMENT, p -> p.work(n));
      refused("6: book " + n, ARGUMENT, p -> p.book(n));
    }
    for (int which : new int[] {LEAST, -1, 2, MOST}) {
      refused("4: law " + which, ARGUMENT, p -> p.law(which, 3));
      refused("4: law " + which + " of nothing", ARGUMENT, p -> p.law(which, 0));
      refused("4: law " + which + " of too much", ARGUMENT, p -> p.law(which, 41));
    }
    longTexts();
  }

  /** On a full tape: n is too long for the text, not for the TAPE. */
  private static void longTexts() {
    for (int full = 0; full < 5; full++) {
      LullabyPit pit = busy();
      while (pit.feed(0x20202020, 0x20202020, 0x20202020, 0x20202020, 0x20202020) != LullabyPit.NONE) {
        kit.yes("2: 600 at most", pit.count(1) <= 600);
      }
      String before = Snapshot.of(pit);
      Call[] calls = {p -> p.pit(601), p -> p.law(0, 151), p -> p.law(1, 151), p -> p.work(151), p -> p.book(101)};
      Call call = calls[full];
      kit.argument("3 to 6: too long a text, " + full, () -> call.on(pit));
      kit.yes("3 to 6: the TAPE stays, " + full, before.equals(Snapshot.of(pit)));
      kit.same("38: too long a text is counted, " + full, pit.status(2), 1);
    }
  }

  private static void cells() {
    int[][] none = {{-1, 0}, {4, 0}, {0, -1}, {0, 3}, {-1, -1}, {4, 3}, {7, 2}, {3, 5}, {8, 0}, {0, 6}, {-8, 1},
        {LEAST, 0}, {MOST, 0}, {0, LEAST}, {0, MOST}};
    for (int[] at : none) {
      int x = at[0];
      int y = at[1];
      String where = " " + x + " " + y;
      refused("10: cell" + where, INDEX, p -> p.cell(x, y, 0));
      refused("10: cell, ahead of what," + where, INDEX, p -> p.cell(x, y, 4));
      refused("15: can" + where, INDEX, p -> p.can(x, y));
      refused("16: falls" + where, INDEX, p -> p.falls(x, y));
      refused("17: risks" + where, INDEX, p -> p.risks(x, y));
      refused("18: harm" + where, INDEX, p -> p.harm(x, y));
      refused("20: way" + where, INDEX, p -> p.way(x, y, 0));
      refused("20: way, ahead of what," + where, INDEX, p -> p.way(x, y, 2));
    }
    for (int what : new int[] {LEAST, -1, 4, MOST}) {
      refused("10: cell 3 2 by " + what, ARGUMENT, p -> p.cell(3, 2, what));
    }
    for (int what : new int[] {LEAST, -1, 2, MOST}) {
      refused("20: way 3 2 by " + what, ARGUMENT, p -> p.way(3, 2, what));
      refused("20: way to an OPEN one by " + what, ARGUMENT, p -> p.way(1, 0, what));
    }
  }

  private static void ordersAndKinds() {
    for (int order : new int[] {LEAST, -1, 2, 6, MOST}) {
      refused("12: order " + order, ELEMENT, p -> p.order(order, 0));
      refused("12: order, ahead of what, " + order, ELEMENT, p -> p.order(order, 4));
      refused("13: note " + order, ELEMENT, p -> p.note(order, 0));
      refused("13: note, ahead of i, " + order, ELEMENT, p -> p.note(order, -1));
      refused("14: lacks " + order, ELEMENT, p -> p.lacks(order));
    }
    for (int what : new int[] {LEAST, -1, 4, MOST}) {
      refused("12: order 0 by " + what, ARGUMENT, p -> p.order(0, what));
    }
    for (int i : new int[] {LEAST, -1, 2, 8, MOST}) {
      refused("13: note 0 " + i, ARGUMENT, p -> p.note(0, i));
    }
    refused("13: note 1 3", ARGUMENT, p -> p.note(1, 3));
    for (int kind : new int[] {LEAST, -1, 0, 5, MOST}) {
      refused("11: kind " + kind, ARGUMENT, p -> p.kind(kind, 0));
      refused("28: owners of KIND " + kind, ARGUMENT, p -> p.owners(kind, 1, 0));
      refused("29: face of KIND " + kind, ARGUMENT, p -> p.face(kind, 0));
    }
    for (int what : new int[] {LEAST, -1, 5, MOST}) {
      refused("11: kind 1 by " + what, ARGUMENT, p -> p.kind(1, what));
    }
    for (int what : new int[] {LEAST, -1, 11, MOST}) {
      refused("9: told " + what, ARGUMENT, p -> p.told(what));
    }
  }

  private static void surveys() {
    for (int n : new int[] {LEAST, -1, 4, MOST}) {
      refused("19: best by " + n, ARGUMENT, p -> p.best(n, 0));
    }
    for (int what : new int[] {LEAST, -1, 2, MOST}) {
      refused("19: best, what " + what, ARGUMENT, p -> p.best(3, what));
      refused("19: best by none, what " + what, ARGUMENT, p -> p.best(0, what));
      refused("21: hold " + what, ARGUMENT, p -> p.hold(what));
      refused("22: fill " + what, ARGUMENT, p -> p.fill(what));
      refused("26: next " + what, ARGUMENT, p -> p.next(what));
      refused("29: face, what " + what, ARGUMENT, p -> p.face(1, what));
    }
    for (int what : new int[] {LEAST, -1, 4, MOST}) {
      refused("34: sums " + what, ARGUMENT, p -> p.sums(what));
    }
    for (int y : new int[] {LEAST, -1, 3, 6, MOST}) {
      refused("35: open " + y, ARGUMENT, p -> p.open(y));
    }
  }

  private static void columns() {
    for (int x : new int[] {LEAST, -1, 4, 7, 8, MOST}) {
      refused("23: tap " + x, ARGUMENT, p -> p.tap(x));
      refused("24: moved " + x, ARGUMENT, p -> p.moved(x, 0));
      refused("27: canon " + x, ARGUMENT, p -> p.canon(x, 0, 0));
      refused("27: canon 0 " + x, ARGUMENT, p -> p.canon(0, x, 0));
    }
    for (int s : new int[] {LEAST, -8, 8, MOST}) {
      refused("24: moved by " + s, ARGUMENT, p -> p.moved(0, s));
    }
    for (int what : new int[] {LEAST, -1, 2, MOST}) {
      refused("27: canon, what " + what, ARGUMENT, p -> p.canon(0, 1, what));
    }
  }

  private static void games() {
    for (int n : new int[] {LEAST, -1, 21, MOST}) {
      refused("28: owners by " + n, ARGUMENT, p -> p.owners(1, n, 0));
    }
    for (int what : new int[] {LEAST, -1, 3, MOST}) {
      refused("28: owners, what " + what, ARGUMENT, p -> p.owners(1, 1, what));
      refused("33: span, what " + what, ARGUMENT, p -> p.span(1, 1, 0, 1, what));
    }
    for (int q : new int[] {LEAST, -1, 17, MOST}) {
      refused("32: decade, Q " + q, ARGUMENT, p -> p.decade(1, q, 1, 0));
      refused("33: span, Q " + q, ARGUMENT, p -> p.span(1, 1, q, 1, 0));
    }
    for (int shifts : new int[] {LEAST, -1, 0, 41, MOST}) {
      refused("32: decade of " + shifts, ARGUMENT, p -> p.decade(1, 0, shifts, 0));
      refused("33: span of " + shifts, ARGUMENT, p -> p.span(1, 1, 0, shifts, 0));
    }
    for (int what : new int[] {LEAST, -1, 4, MOST}) {
      refused("32: decade, what " + what, ARGUMENT, p -> p.decade(1, 0, 1, what));
    }
    for (int many : new int[] {LEAST, -1, 0, 21, MOST}) {
      refused("33: span of SEEDS " + many, ARGUMENT, p -> p.span(1, many, 0, 1, 0));
    }
  }

  /** status() and count() answer NONE for others, and are not refused. */
  private static void noneOfOthers() {
    LullabyPit pit = busy();
    String before = Snapshot.of(pit);
    for (int what : new int[] {LEAST, -1, 3, MOST}) {
      kit.same("38: status " + what, pit.status(what), -1);
      kit.same("39: count " + what, pit.count(what), -1);
    }
    kit.same("38: none was refused", pit.status(0) + pit.status(1) + pit.status(2), 0);
    kit.yes("38, 39: nothing stays changed", before.equals(Snapshot.of(pit)));
  }

  private static void unchanged(String name, Call call) {
    LullabyPit pit = busy();
    String before = Snapshot.of(pit);
    Object first = call.on(pit);
    kit.yes(name + " changes nothing", before.equals(Snapshot.of(pit)));
    kit.yes(name + " answers alike again", first.equals(call.on(pit)));
    kit.same(name + " is not refused", pit.status(0) + pit.status(1) + pit.status(2), 0);
  }

  /** Asked, nothing stays changed. */
  private static void asked() {
    for (int what = 0; what <= 1; what++) {
      int either = what;
      for (int n = 0; n <= 3; n++) {
        int digs = n;
        unchanged("19: best " + n, p -> p.best(digs, either));
      }
      unchanged("20: way", p -> p.way(3, 2, either));
      unchanged("21: hold", p -> p.hold(either));
      unchanged("22: fill", p -> p.fill(either));
      unchanged("26: next", p -> p.next(either));
      unchanged("27: canon", p -> p.canon(1, 2, either));
      unchanged("29: face", p -> p.face(1, either));
    }
    for (int what = 0; what <= 2; what++) {
      int three = what;
      unchanged("28: owners", p -> p.owners(2, 20, three));
      unchanged("33: span", p -> p.span(5, 20, 3, 40, three));
    }
    for (int what = 0; what <= 3; what++) {
      int four = what;
      unchanged("32: decade", p -> p.decade(5, 3, 40, four));
      unchanged("34: sums", p -> p.sums(four));
    }
    unchanged("15: can", p -> p.can(2, 1));
    unchanged("17: risks", p -> p.risks(2, 1));
    unchanged("13: note", p -> p.note(1, 2));
    unchanged("14: lacks", p -> p.lacks(1));
    unchanged("23: tap", p -> p.tap(3));
    unchanged("24: moved", p -> p.moved(3, -7));
    unchanged("25: fits", p -> p.fits());
    unchanged("30: level", p -> p.level());
    unchanged("31: pick", p -> p.pick());
  }
}
