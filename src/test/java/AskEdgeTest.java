/** Questions at their edges: nothing there, all there, alike ones, the first and the last that count. */
public final class AskEdgeTest {
  private static final int NONE = -1;

  private static final Kit kit = new Kit();

  private static LullabyPit p() {
    return kit.pit;
  }

  private static void same(String what, long got, long due) {
    kit.same(what, got, due);
  }

  private static void fresh(String pit) {
    kit.fresh();
    kit.yes("the pit of a test has no fault", kit.pit(pit) >= 0);
  }

  /** All STEPS of a WORK are done. */
  private static void work(String text) {
    kit.yes("[" + text + "] has no FAULT", kit.work(text) >= 0);
    same("[" + text + "] is done whole", p().told(9), 0);
  }

  private static void law(int which, String text) {
    same("[" + text + "] is a LAW", kit.law(which, text), 1);
  }

  private static long digits(int... cells) {
    long number = 0;
    for (int cell : cells) {
      number = number * 64 + cell + 1;
    }
    return number;
  }

  private static void best(int n, int pence, int... cells) {
    same("19: pence by " + n, p().best(n, 0), pence);
    same("19: CELLS by " + n, p().best(n, 1), digits(cells));
  }

  private static void way(int x, int y, int many, int bars) {
    same("20: CELLS to " + x + " " + y, p().way(x, y, 0), many);
    same("20: BARS to " + x + " " + y, p().way(x, y, 1), bars);
  }

  private static void hold(int... cells) {
    same("21: how many", p().hold(0), cells.length);
    same("21: CELLS", p().hold(1), digits(cells));
  }

  private static void fill(int pence, int orders) {
    same("22: pence", p().fill(0), pence);
    same("22: ORDERS", p().fill(1), orders);
  }

  public static void main(String[] args) {
    newObject();
    orders();
    wide();
    canDig();
    falls();
    risks();
    bestPence();
    bestTies();
    bestLimits();
    ways();
    waysMost();
    holds();
    holdTies();
    fills();
    fillTies();
    taps();
    moves();
    fitting();
    nextTap();
    nextTop();
    nextTies();
    canons();
    rests();
    faces();
    levels();
    picks();
    draws();
    decades();
    spans();
    sums();
    rows();
    counts();
    kit.end();
  }

  private static void newObject() {
    kit.fresh();
    for (int y = 0; y < 4; y++) {
      for (int x = 0; x < 6; x++) {
        same("1: rock, no BARS, WHOLE", p().cell(x, y, 0) + p().cell(x, y, 1) + p().cell(x, y, 2) + p().cell(x, y, 3), 0);
        same("1: not at HAND", p().can(x, y), 2);
        same("1: HARM is kind", p().harm(x, y), 0);
      }
      same("1: none is OPEN", p().open(y), 0);
    }
    int[] told = {6, 4, 0, 1, 4, 5, 0, 0, 4, 0, 0};
    for (int what = 0; what < told.length; what++) {
      same("1: told " + what, p().told(what), told[what]);
    }
    for (int kind = 1; kind <= 4; kind++) {
      for (int what = 0; what <= 4; what++) {
        same("1: kind " + what, p().kind(kind, what), what == 4 ? 1 : 0);
      }
      same("1: no face", p().face(kind, 0), 0);
      same("1: no face", p().face(kind, 1), NONE);
    }
    for (int what = 0; what <= 3; what++) {
      same("1: sums", p().sums(what), 0);
    }
    same("1: no FAULT", p().fault(), NONE);
    same("1: all MOVES fit", p().fits(), 32767);
    same("1: pick", p().pick(), NONE);
    same("1: level", p().level(), 0);
    best(3, 0);
    hold();
    fill(0, 0);
    way(0, 0, NONE, NONE);
    same("1: nothing to undo", p().undo(), NONE);
    same("1: no IMAGE", p().restore(), NONE);
    kit.element("1: no ORDER", () -> p().order(0, 0));
    kit.index("1: 6 wide", () -> p().cell(6, 0, 0));
    kit.index("1: 4 high", () -> p().cell(0, 4, 0));
    shaftAlone();
  }

  private static void shaftAlone() {
    fresh("shaft 5;");
    same("15: by a shaft", p().can(5, 0), 0);
    same("15: CELL 0 of it alone", p().can(5, 1), 2);
    same("15: of its column alone", p().can(4, 0), 2);
    same("34: one at HAND", p().sums(3), 1);
    same("31: rock can be dug", p().pick(), 5);
    work("dig 5 0;");
    same("18: the LAW of FALL without: wide - 2", p().sums(1), 0);
    work("dig 4 0;");
    same("16: two wide stand", p().falls(4, 0) ? 1 : 0, 0);
    same("17: three wide fall", p().risks(3, 0), 3);
  }

  private static void orders() {
    int[][] rows = {{1, 4}, {60, 3, 2, 1}, {2, 1, 1, 1, 1, 1, 1, 1, 2}, {7, 2, 3}, {7, 4, 4, 4}, {59, 1, 2, 3, 4, 4, 3, 2, 1}};
    StringBuilder text = new StringBuilder("price 1 10;price 2 20;price 3 0;price 4 99;");
    for (int[] row : rows) {
      text.append("order");
      for (int number : row) {
        text.append(' ').append(number);
      }
      text.append(" end;");
    }
    fresh(text.toString());
    int[] prices = {0, 10, 20, 0, 99};
    for (int order = 0; order < rows.length; order++) {
      int worth = 0;
      for (int i = 1; i < rows[order].length; i++) {
        same("13: the KIND " + (i - 1) + " of ORDER " + order, p().note(order, i - 1), rows[order][i]);
        worth += prices[rows[order][i]];
      }
      int many = rows[order].length - 1;
      int last = order;
      kit.argument("13: no more KINDS", () -> p().note(last, many));
      same("12: T of " + order, p().order(order, 0), rows[order][0]);
      same("12: BARS of " + order, p().order(order, 1), many);
      same("12: worth of " + order, p().order(order, 2), worth);
      same("12: open", p().order(order, 3), 0);
      same("14: all lack for " + order, p().lacks(order), many);
    }
    kit.element("12: no seventh", () -> p().order(6, 0));
  }

  private static void wide() {
    fresh("size 8 2;shaft 0;shaft 3;shaft 7;crew 9;store 20;");
    law(0, "0");
    work("dig 0 0;dig 1 0;dig 3 0;dig 4 0;dig 5 0;dig 7 0;");
    int[] due = {2, 2, 0, 3, 3, 3, 0, 1};
    for (int x = 0; x < 8; x++) {
      same("10: wide " + x, p().cell(x, 0, 3), due[x]);
    }
    work("dig 2 0;dig 6 0;");
    same("10: all 8", p().cell(0, 0, 3) * 10 + p().cell(7, 0, 3), 88);
    work("prop 4 0;");
    same("10: to the left of a PROPPED one", p().cell(3, 0, 3), 4);
    same("10: to the right of it", p().cell(5, 0, 3), 3);
    same("10: the PROPPED one", p().cell(4, 0, 3), 0);
    work("dig 0 1;");
    same("10: another row", p().cell(0, 1, 3), 1);
  }

  private static void canDig() {
    fresh("size 4 3;water 1 1;shaft 1;shaft 3;crew 2;");
    law(0, "0");
    same("15: 0 yes", p().can(1, 0), 0);
    work("dig 1 0;dig 1 1;");
    same("15: OPEN, WET and the crew done: 1", p().can(1, 1), 1);
    same("15: OPEN and the crew done: 1", p().can(1, 0), 1);
    same("15: not at HAND, WET and the crew done: 2", p().can(3, 2), 2);
    same("15: not at HAND by a corner: 2", p().can(0, 2), 2);
    same("15: at HAND, WET and the crew done: 3", p().can(1, 2), 3);
    same("15: at HAND and the crew done: 4", p().can(3, 0), 4);
    work("shift;");
    same("15: WET: 3", p().can(0, 1), 3);
    same("15: 0 again", p().can(3, 0), 0);
    work("prop 1 0;");
    same("15: a PROPPED one is OPEN", p().can(1, 0), 1);
    same("15: beside a PROPPED one", p().can(2, 0), 0);
    law(0, "1");
    work("dig 2 0;");
    same("15: a FALLEN one", p().can(2, 0), 0);
    same("15: beside a FALLEN one", p().can(2, 1), 2);
  }

  private static void falls() {
    fresh("size 4 1;shaft 0;crew 9;");
    law(0, "0");
    work("dig 0 0;dig 1 0;");
    law(0, "wide - 1");
    kit.yes("16: DUG", p().falls(0, 0));
    kit.yes("16: WHOLE", !p().falls(2, 0));
    law(0, "wide - 2");
    kit.yes("16: 0 is not above 0", !p().falls(0, 0));
    law(0, "1");
    work("prop 0 0;");
    kit.yes("16: PROPPED", !p().falls(0, 0));
    work("dig 2 0;");
    same("16: FALLEN", p().cell(1, 0, 2), 3);
    kit.yes("16: FALLEN ones don't FALL", !p().falls(1, 0));
  }

  private static void risks() {
    fresh("size 4 2;water 0 1;shaft 0;shaft 1;crew 2;");
    law(0, "1");
    same("17: itself", p().risks(0, 0), 1);
    same("17: not at HAND", p().risks(2, 0), NONE);
    law(0, "0");
    work("dig 0 0;dig 0 1;");
    same("17: OPEN", p().risks(0, 0), NONE);
    same("17: none", p().risks(1, 0), 0);
    same("17: WET and the crew done, none", p().risks(1, 1), 0);
    law(0, "1");
    same("17: the crew done", p().risks(1, 0), 3);
    same("17: WET and the crew done", p().risks(1, 1), 3);
    work("shift;");
    same("17: WET", p().risks(1, 1), 3);
    work("pump;prop 0 0;");
    same("17: PROPPED", p().risks(0, 0), NONE);
    same("17: PROPPED ones don't FALL", p().risks(1, 0), 2);
    law(0, "wide - 1");
    same("17: with its row", p().risks(1, 1), 2);
    same("17: beside a PROPPED one it is 1 wide", p().risks(1, 0), 0);
    law(0, "deep");
    same("17: others FALL, too", p().risks(1, 0), 1);
    law(0, "1");
    work("dig 1 0;");
    same("17: FALLEN and at HAND by a PROPPED one", p().risks(1, 0), 1);
  }

  private static void bestPence() {
    fresh("size 3 3;seam 0 0 1 1 1 2;seam 0 1 1 1 2 9;seam 1 0 1 1 3 1;seam 2 0 1 1 4 9;shaft 0;price 2 0;price 3 50;");
    best(0, 0);
    best(1, 2, 0);
    best(2, 52, 0, 1);
    best(3, 61, 0, 1, 2);
    law(0, "kind / 4");
    best(3, 61, 0, 1, 2);
    law(0, "kind / 3");
    // What FALLS with the first is WHOLE no more, and nothing else gets at HAND by it.
    best(3, 52, 0, 1);
    work("dig 0 0;");
    best(1, 50, 1);
    fresh("size 2 1;seam 0 0 2 1 1 9;shaft 0;price 1 0;");
    best(3, 0);
    fresh("size 1 3;seam 0 0 1 3 4 9;shaft 0;crew 1;price 4 99;");
    best(1, 891, 0);
    best(2, 1782, 0, 8);
    best(3, 2673, 0, 8, 16);
    work("dig 0 0;");
    // The BELT's BARS are none of those that are dug.
    best(3, 1782, 8, 16);
    same("19: nothing is sold", p().told(6), 0);
  }

  private static void bestTies() {
    fresh("size 3 1;seam 0 0 3 1 1 2;shaft 0;shaft 1;shaft 2;");
    best(1, 2, 0);
    best(2, 4, 0, 1);
    best(3, 6, 0, 1, 2);
    fresh("size 3 2;seam 2 0 1 1 1 2;shaft 0;shaft 2;");
    best(3, 2, 2);
    // By two digs 4 lie there, by three no more: the fewest.
    fresh("size 4 2;seam 0 0 1 1 1 2;seam 3 0 1 1 1 2;shaft 0;shaft 3;");
    best(3, 4, 0, 3);
    // Alike by two: 0 then 8 is ahead of 7 then 15.
    fresh("size 8 2;seam 0 1 1 1 1 2;seam 7 1 1 1 1 2;shaft 0;shaft 7;");
    best(2, 2, 0, 8);
    best(1, 0);
    best(3, 2, 0, 8);
    fresh("size 8 2;seam 0 1 1 1 1 2;seam 7 1 1 1 1 3;shaft 0;shaft 7;");
    best(2, 3, 7, 15);
    best(3, 3, 7, 15);
    fresh("size 8 6;seam 7 0 1 6 1 1;shaft 7;crew 9;");
    law(0, "0");
    work("dig 7 0;dig 7 1;dig 7 2;");
    best(3, 3, 31, 39, 47);
    // Of the three CELLS of the question ahead nothing is left.
    same("19: another PIT", kit.pit("size 3 3;shaft 0;"), 0);
    same("19: nothing is worth a dig", p().best(3, 1), 0);
    best(3, 0);
    best(2, 0);
    best(0, 0);
  }

  private static void bestLimits() {
    // No dig below WET; water by itself brings nothing.
    fresh("size 2 3;water 0 0;seam 1 0 1 1 1 3;seam 0 2 1 1 1 9;shaft 0;");
    best(3, 0);
    fresh("size 2 3;seam 1 1 1 1 1 1;water 0 1;seam 0 2 1 1 1 9;shaft 0;shaft 1;crew 9;");
    best(3, 1, 1, 9);
    work("dig 1 0;");
    best(2, 1, 9);
    // As it is WET now.
    work("dig 0 0;dig 0 1;");
    same("19: WET", p().told(8), 1);
    best(3, 0);
    work("pump;");
    best(1, 9, 16);
    best(2, 10, 9, 16);
    // A crew that is done, and SHIFT after SHIFT.
    work("shift;dig 0 2;shift;");
    best(3, 1, 9);
    // A FALLEN one can be dug, for no BARS, and be on the way.
    fresh("size 1 3;seam 0 0 1 3 1 4;shaft 0;");
    law(0, "1");
    work("dig 0 0;");
    best(3, 0);
    law(0, "0");
    best(2, 4, 0, 8);
    best(3, 8, 0, 8, 16);
    fresh("size 1 1;seam 0 0 1 1 1 4;shaft 0;");
    work("dig 0 0;");
    best(3, 0);
  }

  private static void ways() {
    fresh("size 3 3;seam 0 0 3 3 1 1;water 1 1;shaft 0;crew 9;");
    law(0, "0");
    way(0, 0, 1, 1);
    way(2, 0, 3, 3);
    way(1, 1, 3, 2);
    way(2, 2, 5, 5);
    work("dig 0 0;");
    way(0, 0, 0, 0);
    way(1, 0, 1, 1);
    work("prop 0 0;");
    way(0, 0, 0, 0);
    law(0, "1");
    work("dig 1 0;");
    way(1, 0, 1, 0);
    way(2, 0, 2, 1);
    way(1, 1, 2, 1);
    fresh("size 3 3;seam 0 0 3 3 1 1;shaft 0;shaft 2;");
    way(1, 0, 2, 2);
    way(2, 2, 3, 3);
    way(2, 0, 1, 1);
    fresh("size 2 2;seam 0 0 2 2 1 1;");
    way(0, 0, NONE, NONE);
    way(1, 1, NONE, NONE);
    // No way through water, but to it; WET or not.
    fresh("size 3 3;water 0 1;water 1 1;water 2 1;seam 0 2 3 1 2 5;shaft 0;crew 9;");
    way(0, 1, 2, 0);
    way(2, 1, 4, 0);
    way(0, 2, NONE, NONE);
    work("dig 0 0;dig 0 1;");
    same("20: WET", p().told(8), 1);
    way(0, 2, 1, 5);
    way(1, 1, 1, 0);
    way(2, 2, 3, 15);
    way(0, 1, 0, 0);
    fresh("water 0 0;shaft 0;");
    way(0, 0, 1, 0);
    way(1, 0, NONE, NONE);
    fresh("size 1 2;water 0 0;shaft 0;");
    law(0, "1");
    work("dig 0 0;");
    way(0, 0, 1, 0);
    way(0, 1, NONE, NONE);
  }

  private static void waysMost() {
    // Of the shortest ways the one with most BARS; a longer one with more is none.
    fresh("size 3 3;seam 1 0 1 1 1 1;seam 0 1 1 1 2 2;seam 1 1 1 1 3 3;seam 2 0 1 1 4 9;seam 2 1 1 1 4 9;shaft 0;");
    way(1, 1, 3, 5);
    way(1, 2, 4, 5);
    way(2, 1, 4, 19);
    way(2, 2, 5, 19);
    way(0, 2, 3, 2);
    fresh("size 8 6;seam 0 0 8 6 1 9;shaft 0;");
    way(7, 5, 13, 117);
    fresh("size 8 6;shaft 0;seam 0 5 8 1 1 9;seam 7 0 1 5 1 9;");
    way(7, 5, 13, 72);
    // From each side: to the left, to the right, down and up.
    fresh("size 8 1;seam 0 0 8 1 1 2;shaft 7;");
    way(0, 0, 8, 16);
    fresh("size 3 3;seam 0 0 3 3 1 1;seam 1 1 1 1 4 9;seam 2 0 1 1 3 5;shaft 2;");
    way(0, 1, 4, 16);
    way(0, 2, 5, 17);
    fresh("size 2 2;seam 0 0 2 2 1 4;shaft 0;crew 9;");
    law(0, "0");
    work("dig 0 0;dig 0 1;prop 0 1;");
    law(0, "1 - deep");
    work("dig 1 1;");
    same("20: the top one FELL", p().cell(0, 0, 2), 3);
    way(0, 0, 1, 0);
    way(1, 0, 1, 4);
    // A FALLEN one has no BARS: the way round it has more.
    fresh("size 2 2;seam 0 0 2 2 1 3;shaft 0;crew 9;");
    law(0, "0");
    work("dig 0 0;prop 0 0;");
    law(0, "1");
    work("dig 1 0;");
    law(0, "0");
    way(1, 1, 2, 6);
    // A snake, as long as can be.
    fresh("size 3 6;water 0 1;water 1 1;water 1 3;water 2 3;water 0 5;water 1 5;shaft 0;");
    way(2, 5, 12, 0);
    // By what is OPEN no CELL is to be dug.
    fresh("size 4 1;seam 0 0 4 1 1 2;shaft 0;crew 9;");
    law(0, "0");
    work("dig 0 0;dig 1 0;");
    way(3, 0, 2, 4);
  }

  private static final String TOP = "size 8 3;shaft 0;shaft 2;shaft 4;shaft 6;crew 9;store 20;";

  private static void digRow(int from, int to) {
    for (int x = from; x <= to; x++) {
      work("dig " + x + " 0;");
    }
  }

  private static void holds() {
    fresh(TOP);
    law(0, "0");
    hold();
    digRow(0, 7);
    hold();
    law(0, "wide - 7");
    hold(0);
    law(0, "wide - 4");
    hold(3);
    law(0, "wide - 3");
    hold(0, 4);
    law(0, "wide - 1");
    hold(0, 2, 4, 6);
    law(0, "wide");
    same("21: not by 4", p().hold(0), NONE);
    same("21: no CELLS", p().hold(1), NONE);
    work("prop 0 0;prop 2 0;prop 4 0;prop 6 0;");
    hold(1, 3, 5, 7);
    work("prop 7 0;prop 5 0;prop 3 0;prop 1 0;");
    hold();
    fresh("size 8 3;shaft 0;crew 9;store 0;");
    law(0, "0");
    digRow(0, 4);
    law(0, "1");
    same("21: five are not by 4", p().hold(0), NONE);
    fresh("size 8 3;shaft 0;crew 9;store 0;");
    law(0, "0");
    digRow(0, 3);
    law(0, "1");
    hold(0, 1, 2, 3);
    kit.yes("21: the store not asked", p().told(5) == 0);
    same("21: none is PROPPED", p().cell(0, 0, 2), 1);
  }

  private static void holdTies() {
    // Over rows: CELLS rising.
    fresh("size 4 4;shaft 0;crew 9;");
    law(0, "0");
    work("dig 0 0;dig 0 1;dig 0 2;dig 1 2;dig 1 0;dig 2 2;dig 0 3;");
    law(0, "deep * (wide - 1)");
    hold(17);
    law(0, "wide - 1");
    hold(0, 17);
    law(0, "deep");
    same("21: five below the top", p().hold(0), NONE);
    law(0, "deep / 2");
    hold(16, 17, 18, 24);
    law(0, "deep / 3");
    hold(24);
    law(0, "deep / 4");
    hold();
    // A CELL that is PROPPED holds its neighbours by "props".
    fresh(TOP);
    law(0, "0");
    digRow(0, 2);
    law(0, "1 - props");
    hold(1);
    digBy("0", 3);
    law(0, "1 - props");
    hold(0, 2);
    law(0, "2 - props * 2");
    hold(0, 2);
    // By PROPS more would FALL: none is best.
    law(0, "props");
    hold();
    law(0, "4 - wide");
    hold();
    law(0, "5 - wide");
    hold(0, 1, 2, 3);
    // WET ones, too: the document asks for DUG ones alone.
    fresh("size 2 1;water 0 0;shaft 0;shaft 1;crew 9;");
    law(0, "0");
    work("dig 1 0;dig 0 0;");
    same("21: WET", p().told(8), 0);
    law(0, "wide - 1");
    hold(0);
  }

  private static void digBy(String fall, int x) {
    law(0, fall);
    work("dig " + x + " 0;");
  }

  private static void fills() {
    fresh("size 1 1;seam 0 0 1 1 1 5;shaft 0;price 1 3;price 2 50;"
        + "order 1 1 1 end;order 2 1 1 1 end;order 1 2 end;order 60 1 1 1 1 1 end;");
    fill(0, 0);
    work("dig 0 0;");
    fill(15, 3);
    work("sell 1 1;");
    fill(9, 2);
    work("sell 1 2;");
    fill(6, 1);
    work("sell 1 1;");
    fill(0, 0);
    fresh("size 1 1;seam 0 0 1 1 1 5;shaft 0;order 1 1 end;order 2 1 1 end;order 2 1 1 end;order 3 1 1 1 end;");
    work("dig 0 0;");
    fill(5, 7);
    // The first is DONE: those of this SHIFT and later ones are open.
    work("shift;");
    same("12: DONE", p().order(0, 3), 1);
    fill(4, 6);
    work("sell 1 1;");
    fill(3, 8);
    work("sell 1 3;shift;");
    same("12: FAILED", p().order(1, 3), 2);
    fill(0, 0);
    fresh("size 2 1;seam 0 0 1 1 1 2;seam 1 0 1 1 1 9;shaft 0;order 1 1 1 1 end;order 2 1 end;");
    work("dig 0 0;shift;dig 1 0;");
    same("12: FAILED", p().order(0, 3), 2);
    fill(1, 2);
    // All six, by all KINDS.
    fresh("size 4 1;seam 0 0 1 1 1 2;seam 1 0 1 1 2 2;seam 2 0 1 1 3 2;seam 3 0 1 1 4 2;shaft 0;price 4 9;"
        + "order 1 1 2 end;order 1 3 4 end;order 2 1 end;order 2 2 end;order 2 3 end;order 2 4 end;");
    law(0, "0");
    work("dig 0 0;dig 1 0;dig 2 0;dig 3 0;");
    fill(24, 63);
    work("sell 4 1;");
    fill(15, 31);
    work("sell 4 1;");
    fill(5, 29);
  }

  private static void fillTies() {
    String ahead = "size 1 1;seam 0 0 1 1 1 4;shaft 0;";
    // Alike by the first two or by the third: 3 is less than 4.
    fresh(ahead + "order 1 1 1 end;order 1 1 1 end;order 1 1 1 1 1 end;");
    work("dig 0 0;");
    fill(4, 3);
    // Alike by the first or by the next two: 1 is less than 6.
    fresh(ahead + "order 1 1 1 1 1 end;order 1 1 1 end;order 1 1 1 end;");
    work("dig 0 0;");
    fill(4, 1);
    // Nothing for nothing: the empty set is the least.
    fresh(ahead + "price 1 0;order 1 1 end;order 1 1 end;");
    work("dig 0 0;");
    fill(0, 0);
    // One that pays nothing adds bits alone.
    fresh("size 2 1;seam 0 0 1 1 1 4;seam 1 0 1 1 2 4;shaft 0;price 1 0;order 1 1 end;order 1 2 end;order 2 1 end;");
    work("dig 0 0;dig 1 0;");
    fill(1, 2);
  }

  private static void taps() {
    fresh("size 6 6;seam 0 0 1 1 1 1;seam 1 5 1 1 4 1;water 3 0;water 4 0;seam 4 1 1 1 2 1;seam 5 2 1 4 3 1;shaft 0;");
    int[] due = {0, 5, 6, 6, 1, 2};
    for (int x = 0; x < 6; x++) {
      same("23: column " + x, p().tap(x), due[x]);
    }
    work("dig 0 0;");
    same("23: as told, DUG or not", p().tap(0), 0);
    kit.argument("23: 6", () -> p().tap(6));
    fresh("size 1 1;");
    same("23: H without", p().tap(0), 1);
    kit.argument("23: 1", () -> p().tap(1));
    fresh("size 8 1;seam 7 0 1 1 1 1;");
    same("23: the last column", p().tap(7), 0);
    kit.argument("23: 8", () -> p().tap(8));
  }

  private static void moves() {
    fresh("size 8 2;seam 0 0 1 1 1 1;seam 7 1 1 1 1 1;");
    same("24: by 0", p().moved(0, 0), 0);
    same("24: by 7 to the right", p().moved(7, 7), 0);
    same("24: by 7 to the left", p().moved(0, -7), 1);
    same("24: one too far", p().moved(6, 7), 2);
    same("24: from outside", p().moved(0, 1), 2);
    same("24: from outside", p().moved(7, -1), 2);
    same("24: none lie there", p().moved(1, -7), 2);
    fresh("size 8 6;seam 0 1 1 5 1 1;");
    same("24: from outside, not from the next row", p().moved(7, -1), 6);
    same("24: nor from the row above", p().moved(0, 1), 6);
    fresh("size 8 6;seam 7 0 1 5 1 1;");
    same("24: from outside, not from the next row", p().moved(7, -1), 6);
    same("24: nor from the row above", p().moved(0, 1), 6);
    fresh("size 2 3;seam 0 2 1 1 1 1;seam 1 1 1 1 1 1;");
    same("24: from the left", p().moved(1, 1), 2);
    same("24: from the right", p().moved(0, -1), 1);
    same("24: from beyond W", p().moved(1, -1), 3);
    same("24: far away", p().moved(0, 7) + p().moved(1, -7), 6);
    kit.argument("24: 2", () -> p().moved(2, 0));
  }

  private static int bit(int s) {
    return 1 << (s + 7);
  }

  private static void fitting() {
    fresh("size 8 2;seam 0 0 1 1 1 1;seam 7 1 1 1 1 1;");
    same("25: without lines all fit", p().fits(), 32767);
    kit.book("7 0;");
    same("25: by 7, the highest", p().fits(), bit(7));
    kit.book("0 1;");
    same("25: by -7, the lowest", p().fits(), 1);
    kit.book("0 0;7 1;");
    same("25: as it is", p().fits(), bit(0));
    kit.book("0 0;7 0;");
    same("25: never", p().fits(), 0);
    kit.book("0 6;");
    same("25: more than H: never", p().fits(), 0);
    kit.book("0 2;1 2;2 2;3 2;4 2;5 2;6 2;7 2;");
    same("25: all lines", p().fits(), 0);
    kit.book("3 2;");
    same("25: all but two", p().fits(), 32767 & ~bit(3) & ~bit(-4));
    kit.book("3 2;4 0;");
    same("25: in all lines", p().fits(), bit(4));
    kit.book(" ");
    same("25: none again", p().fits(), 32767);
    fresh("size 2 2;");
    kit.book("1 2;");
    same("25: the last column", p().fits(), 32767);
    kit.book("2 2;");
    same("25: a column there is none: never", p().fits(), 0);
    kit.book("0 2;1 2;7 2;");
    same("25: with others that fit: never", p().fits(), 0);
  }

  private static void nextTap() {
    fresh("size 3 2;seam 0 0 1 1 1 1;seam 1 1 1 1 1 1;");
    kit.book("0 0;");
    same("26: one fits", p().fits(), bit(0));
    same("26: of these the first", p().next(0), 1);
    same("26: one is left", p().next(1), 1);
    kit.book("0 0;1 1;");
    same("26: the last that is in no line", p().next(0), 2);
    same("26: one is left", p().next(1), 1);
    kit.book("0 0;1 1;2 2;");
    same("26: each is in a line", p().next(0), NONE);
    same("26: each is in a line", p().next(1), NONE);
    kit.book("1 5;2 5;");
    same("26: none fits", p().fits(), 0);
    same("26: none is left by the first", p().next(0) * 10 + p().next(1), 0);
    kit.book("0 0;1 1;7 2;");
    same("26: a column there is none", p().next(0) * 10 + p().next(1), 20);
    kit.book("5 0;6 0;7 0;");
    same("26: all three are in no line", p().next(0) * 10 + p().next(1), 0);
    fresh("size 1 1;");
    same("26: one column, all MOVES", p().next(0) * 100 + p().next(1), 15);
    kit.book("0 0;");
    same("26: each is in a line", p().next(0), NONE);
    kit.book("0 1;");
    same("26: each is in a line", p().next(1), NONE);
  }

  /** MUSIC at the top of all: "0" is the answer that leaves most. */
  private static void nextTop() {
    fresh("size 8 1;seam 0 0 8 1 1 1;");
    // Column 0 hears X 0 to 7 by 0 to -7: eight times 0, seven times 1; column 3 eight times 0, too.
    same("26: the first", p().next(0), 0);
    same("26: eight say 0", p().next(1), 8);
    kit.book("0 0;");
    // By -7 to 0 column 7 hears 0 by 0 alone, and 1 seven times; column 4 four of each.
    same("26: column 4 parts them best", p().next(0), 4);
    same("26: four are left", p().next(1), 4);
    kit.book("0 0;4 0;");
    same("26: by -3 to 0", p().fits(), bit(-3) | bit(-2) | bit(-1) | bit(0));
    same("26: column 6 parts them best", p().next(0), 6);
    same("26: two are left", p().next(1), 2);
  }

  private static void nextTies() {
    // Of 15 MOVES column 0 hears X 0 to 4 less s: each of 5 columns once, nothing else 10 times.
    fresh("size 5 5;seam 0 0 1 1 1 1;seam 1 1 1 1 1 1;seam 2 2 1 1 1 1;seam 3 3 1 1 1 1;seam 4 4 1 1 1 1;");
    same("26: all alike: the first", p().next(0), 0);
    same("26: 10 are left", p().next(1), 10);
    // A line of column 2 that hears nothing leaves 10: of these column 0 and 4 tell more than 1 and 3.
    kit.book("2 5;");
    same("26: ten fit", Integer.bitCount(p().fits()), 10);
    int[] left = new int[5];
    for (int x = 0; x < 5; x++) {
      int none = 0;
      for (int s = -7; s <= 7; s++) {
        none += (p().fits() & bit(s)) != 0 && p().moved(x, s) == 5 ? 1 : 0;
      }
      left[x] = none;
    }
    same("26: by 0 the fewest", left[0] < left[1] ? 1 : 0, 1);
    same("26: 0 and 4 alike", left[0], left[4]);
    same("26: the first of them", p().next(0), 0);
    same("26: at the worst", p().next(1), left[0]);
    kit.book("2 5;0 5;");
    same("26: the last of all", p().next(0), 4);
  }

  private static void canons() {
    fresh("size 3 4;seam 0 3 1 1 2 1;seam 1 0 1 1 2 1;seam 2 0 1 4 2 1;");
    same("27: H less 1 down", p().canon(0, 1, 0), 3);
    same("27: one agrees", p().canon(0, 1, 1), 1);
    same("27: not upward", p().canon(1, 0, 1), 0);
    same("27: none: the least", p().canon(1, 0, 0), 0);
    same("27: of alike ones the least", p().canon(2, 1, 0), 0);
    same("27: one", p().canon(2, 1, 1), 1);
    same("27: most", p().canon(2, 2, 1), 4);
    same("27: not down at all", p().canon(2, 2, 0), 0);
    same("27: the last one's last", p().canon(0, 2, 0), 0);
    same("27: one", p().canon(0, 2, 1), 1);
    fresh("size 2 3;water 0 0;water 1 0;seam 0 1 1 1 1 9;seam 1 1 1 1 2 9;shaft 0;");
    same("27: no water, no rock, no other KIND", p().canon(0, 1, 1), 0);
    same("27: the least", p().canon(0, 1, 0), 0);
    fresh("size 2 3;seam 0 1 1 2 4 1;seam 1 0 1 2 4 9;shaft 1;");
    work("dig 1 0;");
    same("27: as told", p().canon(0, 1, 1), 2);
    same("27: one down", p().canon(0, 1, 0), 1);
    same("27: the other way", p().canon(1, 0, 1), 1);
    same("27: the other way", p().canon(1, 0, 0), 0);
    fresh("size 8 6;seam 0 0 8 6 2 1;seam 0 5 1 1 4 1;seam 7 0 1 1 4 1;seam 7 5 1 1 3 1;");
    same("27: all the way down", p().canon(0, 7, 0) * 10 + p().canon(0, 7, 1), 4);
    fresh("size 8 6;seam 0 5 1 1 4 1;seam 7 0 1 1 4 1;");
    same("27: 5 down", p().canon(0, 7, 0) * 10 + p().canon(0, 7, 1), 51);
    same("27: none the other way", p().canon(7, 0, 0) * 10 + p().canon(7, 0, 1), 0);
    fresh("size 1 1;seam 0 0 1 1 3 1;");
    same("27: one CELL", p().canon(0, 0, 1) * 10 + p().canon(0, 0, 0), 10);
  }

  private static int gets(int price, int own, int other) {
    return own * Math.max(0, price - own - other);
  }

  private static void rests() {
    for (int price : new int[] {0, 1, 2, 3, 10, 20, 41, 60, 61, 99}) {
      fresh("price 1 " + price + ";");
      for (int n : new int[] {0, 1, 2, 7, 20}) {
        int many = 0;
        int first = NONE;
        int got = 0;
        for (int i = 0; i < (n + 1) * (n + 1); i++) {
          int one = i / (n + 1);
          int two = i % (n + 1);
          boolean rest = true;
          for (int other = 0; other <= n; other++) {
            rest &= gets(price, other, two) <= gets(price, one, two) && gets(price, other, one) <= gets(price, two, one);
          }
          if (rest && first == NONE) {
            first = 100 * one + two;
            got = gets(price, one, two);
          }
          many += rest ? 1 : 0;
        }
        same("28: RESTS at " + price + " by " + n, p().owners(1, n, 0), many);
        same("28: the first at " + price + " by " + n, p().owners(1, n, 1), first);
        same("28: what the one gets at " + price + " by " + n, p().owners(1, n, 2), got);
      }
    }
    fresh("price 4 6;");
    // By 0 to 3 at 6: 2 and 2 get 4 each, by 1 or 3 they would get 3: a REST; so are 1 and 3 (2), 3 and 1.
    same("28: the one brings less", p().owners(4, 3, 1), 103);
    same("28: three RESTS", p().owners(4, 3, 0), 3);
    same("28: the one gets", p().owners(4, 3, 2), 2);
    same("28: at 1, by 1: all are RESTS", p().owners(1, 1, 0), 4);
  }

  private static void faces() {
    fresh("size 8 2;seam 0 0 8 1 1 1;seam 0 1 2 1 2 1;seam 3 1 2 1 2 1;seam 7 1 1 1 3 1;shaft 0;shaft 4;crew 9;");
    law(0, "0");
    same("29: a whole row", p().face(1, 0) * 100 + p().face(1, 1), 800);
    same("29: of two alike the first", p().face(2, 0) * 100 + p().face(2, 1), 208);
    same("29: one, the last CELL", p().face(3, 0) * 100 + p().face(3, 1), 115);
    same("29: none", p().face(4, 0), 0);
    same("29: none", p().face(4, 1), NONE);
    work("dig 4 0;");
    same("29: left of it", p().face(1, 0) * 100 + p().face(1, 1), 400);
    work("dig 0 0;");
    same("29: of two alike the first", p().face(1, 0) * 100 + p().face(1, 1), 301);
    work("dig 1 0;");
    same("29: right of it", p().face(1, 0) * 100 + p().face(1, 1), 305);
    law(0, "1");
    work("dig 5 0;");
    same("29: FALLEN ones are not WHOLE", p().face(1, 0) * 100 + p().face(1, 1), 202);
    fresh("size 8 2;seam 6 0 2 1 1 1;seam 0 1 2 1 1 1;");
    same("29: not round the edge", p().face(1, 0) * 100 + p().face(1, 1), 206);
    fresh("size 4 2;seam 3 0 1 1 1 1;seam 0 1 1 1 1 1;");
    same("29: nor in a narrow PIT", p().face(1, 0) * 100 + p().face(1, 1), 103);
    fresh("size 3 1;seam 0 0 1 1 1 1;seam 1 0 1 1 1 9;seam 2 0 1 1 1 2;");
    same("29: CELLS, not BARS", p().face(1, 0), 3);
  }

  private static void levels() {
    fresh("size 2 3;");
    same("30: none: the first", p().level(), 0);
    fresh("size 2 3;seam 0 2 1 1 4 1;shaft 0;");
    same("30: the last", p().level(), 2);
    fresh("size 2 3;seam 0 1 2 1 1 2;seam 0 2 1 1 1 4;shaft 0;crew 9;");
    same("30: of alike ones the first", p().level(), 1);
    work("dig 0 0;dig 0 1;");
    same("30: WHOLE ones", p().level(), 2);
    law(0, "1");
    work("dig 0 2;");
    same("30: FALLEN ones are not WHOLE", p().level(), 1);
    fresh("size 2 3;seam 0 0 1 1 2 3;seam 0 1 1 2 1 2;");
    same("30: the first row has most", p().level(), 0);
    fresh("size 3 2;seam 0 0 1 1 1 5;seam 0 1 3 1 1 2;price 1 0;");
    same("30: BARS of a row, not of a CELL", p().level(), 1);
  }

  private static void picks() {
    fresh("size 3 2;seam 1 0 1 1 1 3;seam 2 0 1 1 4 3;seam 0 1 1 1 1 2;shaft 0;shaft 1;shaft 2;crew 1;price 4 99;");
    same("31: of alike ones the first", p().pick(), 1);
    work("dig 1 0;");
    same("31: the crew not asked", p().can(2, 0), 4);
    same("31: the next", p().pick(), 2);
    work("shift;dig 2 0;");
    same("31: rock", p().pick(), 0);
    work("shift;dig 0 0;");
    fresh("size 2 2;water 0 0;water 1 0;shaft 0;shaft 1;");
    same("31: no water", p().pick(), NONE);
    fresh("size 2 2;water 0 0;seam 1 0 1 1 1 1;shaft 0;shaft 1;crew 9;");
    same("31: beside water", p().pick(), 1);
    work("dig 0 0;");
    same("31: WET", p().pick(), NONE);
    work("pump;");
    same("31: dry", p().pick(), 1);
    fresh("size 2 1;seam 1 0 1 1 1 9;shaft 0;shaft 1;");
    law(0, "1");
    work("dig 1 0;");
    same("31: FALLEN ones count 0", p().pick(), 0);
    work("dig 0 0;");
    same("31: of two FALLEN ones the first", p().pick(), 0);
    fresh("size 1 1;shaft 0;");
    work("dig 0 0;");
    same("31: all is OPEN", p().pick(), NONE);
    fresh("size 1 1;water 0 0;shaft 0;");
    law(0, "1");
    work("dig 0 0;pump;");
    same("31: FALLEN and dry", p().can(0, 0), 0);
    same("31: water that FELL is water", p().pick(), NONE);
    fresh("size 8 6;seam 7 5 1 1 1 1;");
    same("31: nothing is at HAND", p().pick(), NONE);
  }

  /** SEEDS and their DRAWS, reckoned with longs: the SEED's 32 bits, its bits 16 to 30, what is left of them by 16. */
  private static int strikes(int seed, int q, int shifts) {
    long now = seed & 0xffffffffL;
    int many = 0;
    for (int i = 0; i < shifts; i++) {
      now = (now * 1103515245L + 12345L) % 4294967296L;
      long draw = now / 65536L % 32768L;
      many += draw % 16L < q ? 1 : 0;
    }
    return many;
  }

  private static void draws() {
    fresh("size 8 1;seam 0 0 8 1 1 1;shaft 0;crew 1;");
    law(0, "0");
    int[] seeds = {0, 1, -1, 7, 12345, Integer.MAX_VALUE, Integer.MIN_VALUE, -987654321, 65536, 1 << 30};
    for (int seed : seeds) {
      for (int q : new int[] {0, 1, 2, 8, 15, 16}) {
        same("32: strikes of " + seed + " by " + q, p().decade(seed, q, 40, 2), strikes(seed, q, 40));
      }
      same("32: one SHIFT of " + seed, p().decade(seed, 8, 1, 2), strikes(seed, 8, 1));
      same("32: nothing is dug by a strike", p().decade(seed, 8, 8, 0), 8 - strikes(seed, 8, 8));
      same("32: Q 0: never", p().decade(seed, 0, 40, 2), 0);
      same("32: Q 16: always", p().decade(seed, 16, 40, 2), 40);
      same("32: Q 16: no BARS", p().decade(seed, 16, 40, 0), 0);
    }
  }

  private static void decades() {
    fresh("size 4 2;seam 0 0 4 2 2 3;shaft 0;crew 2;order 1 2 2 end;order 2 1 end;");
    law(0, "0");
    for (int shifts = 1; shifts <= 5; shifts++) {
      same("32: two CELLS a SHIFT", p().decade(9, 0, shifts, 0), Math.min(24, 6 * shifts));
    }
    same("32: 40 SHIFTS", p().decade(9, 0, 40, 0), 24);
    same("32: HARM", p().decade(9, 0, 40, 3), 48);
    same("32: none fell", p().decade(9, 0, 40, 1), 0);
    work("dig 0 0;");
    same("32: one dig is left in this SHIFT", p().decade(9, 0, 1, 0), 3);
    work("dig 1 0;");
    same("32: none is left in it", p().decade(9, 0, 1, 0), 0);
    same("32: HARM in it, not ahead of it", p().decade(9, 0, 2, 3), 12);
    same("32: ORDERS stay open", p().order(0, 3), 0);
    // A FALLEN one is dug again, as long as the crew may.
    fresh("size 1 1;seam 0 0 1 1 1 4;shaft 0;crew 3;");
    law(0, "1");
    same("32: three fell a SHIFT, each time", p().decade(9, 0, 4, 1), 12);
    same("32: its BARS come once", p().decade(9, 0, 4, 0), 4);
    work("dig 0 0;");
    same("32: fell in it, not ahead of it", p().decade(9, 0, 1, 1), 2);
    // It can dig no more: the SHIFT ends.
    fresh("size 2 1;seam 0 0 1 1 1 4;water 1 0;shaft 0;crew 9;");
    same("32: no water", p().decade(9, 0, 40, 0), 4);
    fresh("size 2 1;seam 0 0 2 1 1 4;crew 9;");
    same("32: nothing at HAND", p().decade(9, 0, 40, 0), 0);
    // WET stays: nobody pumps.
    fresh("size 2 2;water 0 0;seam 1 0 1 2 1 4;shaft 0;crew 9;");
    work("dig 0 0;");
    same("32: WET", p().decade(9, 0, 40, 0), 0);
    // HARM by the SHIFT, which goes on in it.
    fresh("size 3 1;seam 0 0 3 1 1 1;shaft 0;crew 1;");
    law(0, "0");
    law(1, "shift * 10");
    same("32: 10, 20 and 30", p().decade(9, 0, 3, 3), 60);
    same("32: SHIFT 1 still", p().told(3), 1);
    // Most BARS first.
    fresh("size 3 1;seam 0 0 1 1 1 1;seam 1 0 1 1 1 2;seam 2 0 1 1 1 9;shaft 0;shaft 1;shaft 2;crew 1;");
    same("32: 9", p().decade(9, 0, 1, 0), 9);
    same("32: 9 and 2", p().decade(9, 0, 2, 0), 11);
  }

  private static void spans() {
    fresh("size 8 1;seam 0 0 8 1 1 1;shaft 0;crew 1;");
    law(0, "wide - 3");
    for (int seed : new int[] {0, 5, -2, Integer.MAX_VALUE - 3}) {
      for (int many : new int[] {1, 2, 20}) {
        int fewest = 99;
        int most = -1;
        int none = 0;
        for (int i = 0; i < many; i++) {
          int bars = p().decade(seed + i, 8, 6, 0);
          fewest = Math.min(fewest, bars);
          most = Math.max(most, bars);
          none += p().decade(seed + i, 8, 6, 1) == 0 ? 1 : 0;
        }
        same("33: the fewest of " + many + " from " + seed, p().span(seed, many, 8, 6, 0), fewest);
        same("33: the most of " + many + " from " + seed, p().span(seed, many, 8, 6, 1), most);
        same("33: none fell of " + many + " from " + seed, p().span(seed, many, 8, 6, 2), none);
      }
    }
    same("33: strikes alone", p().span(1, 20, 16, 40, 2), 20);
    same("33: no BARS", p().span(1, 20, 16, 40, 1), 0);
    same("33: never a strike", p().span(1, 20, 0, 1, 0), 1);
    same("33: all fell", p().span(1, 20, 0, 40, 2), 0);
  }

  private static void sums() {
    fresh("size 3 3;seam 0 0 3 3 1 3;shaft 0;shaft 2;crew 9;");
    law(0, "0");
    same("34: at HAND by shafts", p().sums(3), 2);
    work("dig 0 0;");
    same("34: OPEN ones are none", p().sums(3), 3);
    work("dig 1 0;prop 1 0;dig 2 0;");
    same("34: DUG and PROPPED ones", p().sums(2), 3);
    same("34: a row below", p().sums(3), 3);
    same("34: BARS dug", p().sums(0), 9);
    work("sell 1 9;");
    same("34: BARS dug, though sold", p().sums(0), 9);
    law(0, "1");
    work("dig 1 1;");
    same("34: three fell", p().sums(1), 3);
    same("34: one is OPEN", p().sums(2), 1);
    same("34: FALLEN ones are at HAND", p().sums(3), 3);
    work("dig 0 0;dig 2 0;");
    same("34: each time", p().sums(1), 5);
    fresh("size 1 1;shaft 0;");
    work("dig 0 0;");
    same("34: nothing is left", p().sums(3), 0);
  }

  private static void rows() {
    fresh("size 8 6;shaft 0;shaft 7;crew 9;");
    law(0, "0");
    work("dig 0 0;dig 7 0;prop 7 0;");
    same("35: X 0 the lowest, X 7 the highest", p().open(0), 129);
    work("dig 7 1;dig 7 2;dig 7 3;dig 7 4;dig 7 5;");
    same("35: the last row", p().open(5), 128);
    law(0, "deep / 5");
    work("dig 0 1;");
    same("35: a FALLEN one is not OPEN", p().open(5), 0);
    same("35: row 1", p().open(1), 129);
    kit.argument("35: 6", () -> p().open(6));
    fresh("size 1 1;shaft 0;");
    same("35: none", p().open(0), 0);
    work("dig 0 0;");
    same("35: one", p().open(0), 1);
    kit.argument("35: 1", () -> p().open(1));
  }

  private static void counts() {
    kit.fresh();
    for (int i = 1; i <= 30; i++) {
      p().feed(0, 0, 0, 0, 0);
      same("39: bytes of the TAPE", p().count(1), 20 * i);
    }
    p().feed(0, 0, 0, 0, 0);
    same("39: 600", p().count(1), 600);
    kit.argument("39: refused", () -> p().work(151));
    same("39: 600 still", p().count(1), 600);
    p().pit(0);
    same("39: empty", p().count(1), 0);
    same("38: one", p().status(2), 1);
    same("38: of others none", p().status(0) + p().status(1), 0);
  }
}
