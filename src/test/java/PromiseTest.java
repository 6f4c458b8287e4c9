/** Each promise by answers worked out by hand from the document. */
public final class PromiseTest {
  private static final String PIT = "size 4 3;seam 0 0 4 1 1 2;seam 1 1 2 1 2 5;seam 3 1 1 1 3 9;water 0 2;shaft 1;"
      + "crew 3;store 2;price 2 4;price 3 7;order 1 1 2 end;order 2 2 2 2 end;";
  private static final String ROW = "size 8 2;seam 0 0 8 1 1 1;shaft 0;crew 9;store 20;";

  private static final Kit kit = new Kit();

  private static LullabyPit p() {
    return kit.pit;
  }

  private static void same(String what, long got, long due) {
    kit.same(what, got, due);
  }

  private static void fresh(String pit) {
    kit.fresh();
    kit.yes("the pit of a test has no fault", kit.pit(pit) >= 0);
  }

  public static void main(String[] args) {
    newObject();
    feed();
    pit();
    law();
    lawWords();
    work();
    workLimits();
    book();
    fault();
    undo();
    told();
    cells();
    kinds();
    orders();
    shifts();
    canDig();
    edges();
    fallsAndRisks();
    water();
    harm();
    best();
    way();
    hold();
    fill();
    taps();
    canon();
    owners();
    faces();
    decades();
    sums();
    images();
    status();
    count();
    kit.end();
  }

  private static void newObject() {
    kit.fresh();
    same("1: W", p().told(0), 6);
    same("1: H", p().told(1), 4);
    same("1: ORDERS", p().told(2), 0);
    same("1: SHIFT", p().told(3), 1);
    same("1: digs", p().told(4), 4);
    same("1: PROPS", p().told(5), 5);
    same("1: pence", p().told(6), 0);
    same("1: HARM", p().told(7), 0);
    same("1: dry", p().told(8), 4);
    same("1: refused", p().told(9), 0);
    same("1: BOOK", p().told(10), 0);
    for (int kind = 1; kind <= 4; kind++) {
      same("1: price", p().kind(kind, 4), 1);
      same("1: bars", p().kind(kind, 0), 0);
    }
    same("1: fault", p().fault(), -1);
    same("1: undo", p().undo(), -1);
    same("1: restore", p().restore(), -1);
    for (int what = 0; what < 3; what++) {
      same("1: count", p().count(what), 0);
      same("1: status", p().status(what), 0);
    }
  }

  private static void feed() {
    kit.fresh();
    same("2: first", p().feed(0x63726577, 0x20373b20, 0, 0, 0), 20);
    same("2: the highest byte first", p().pit(8), 0);
    same("2: crew 7", p().told(4), 7);
    for (int i = 1; i <= 30; i++) {
      same("2: many", p().feed(i, i, i, i, i), 20 * i);
    }
    same("2: full", p().feed(1, 2, 3, 4, 5), -1);
    same("2: still full", p().count(1), 600);
    same("2: no refusal", p().status(2), 0);
  }

  private static void pit() {
    kit.fresh();
    same("3: BARS", kit.pit(PIT), 8 + 10 + 9);
    kit.book("0 1;");
    kit.law(0, "0");
    kit.law(1, "99");
    kit.work("dig 1 0;pump;");
    p().image();
    same("3: a fault", kit.pit("crew 9;shaft 9;"), -8);
    same("3: the fault's place", p().fault(), 13);
    same("3: behind it the tape is empty", p().count(1), 0);
    same("3: behind it crew stays", p().told(4), 2);
    same("3: the BOOK stays", p().told(10), 1);
    same("3: IMAGES stay", p().count(0), 1);
    same("3: WORKS stay", p().count(2), 1);
    same("3: refused STEPS stay", p().told(9), 1);
    same("3: LAWS stay", p().harm(0, 0), 99);
    kit.argument("3: less than none", () -> p().pit(-1));
    kit.feed("crew 2;");
    kit.argument("3: more than there are", () -> p().pit(21));
    same("3: the tape stays", p().count(1), 20);
    same("3: the fault stays by an exception", p().fault(), 13);
    same("3: a part of the tape", p().pit(7), 0);
    same("3: the rest is gone", p().count(1), 0);
    same("3: no fault", p().fault(), -1);
    same("3: new crew", p().told(4), 2);
    same("3: size without", p().told(0), 6);
    same("3: no BOOK", p().told(10), 0);
    same("3: no IMAGES", p().restore(), -1);
    same("3: nothing to undo", p().undo(), -1);
    same("3: no refused STEPS", p().told(9), 0);
    same("3: no LAWS", p().harm(0, 0), 0);
    same("3: the last counts", kit.pit("seam 0 0 2 2 1 9;seam 1 1 1 1 2 4;water 0 0;crew 3;crew 5;price 1 3;price 1 8;"), 22);
    same("3: the last KIND", p().cell(1, 1, 0), 2);
    same("3: water has no BARS", p().cell(0, 0, 1), 0);
    same("3: rock", p().cell(5, 3, 0), 0);
    same("3: the last crew", p().told(4), 5);
    same("3: the last price", p().kind(1, 4), 8);
    same("3: most BARS", kit.pit("size 8 6;seam 0 0 8 6 4 9;"), 432);
    same("3: blanks and none", kit.pit("  size8 6 ;crew  009  ;  "), 0);
    same("3: crew 009", p().told(4), 9);
  }

  private static void law() {
    fresh(ROW);
    same("4: FALL", kit.law(0, "wide - 1"), 1);
    same("4: HARM", kit.law(1, " kind*10 + deep "), 1);
    same("4: by HARM", p().harm(0, 0), 10);
    kit.work("dig 0 0;dig 1 0;");
    same("4: by FALL", p().sums(1), 2);
    same("4: a fault", kit.law(1, "kind kind"), -9);
    same("4: its place", p().fault(), 5);
    same("4: the LAW stays", p().harm(0, 0), 10);
    kit.feed("1");
    kit.argument("4: no such LAW", () -> p().law(2, 1));
    kit.argument("4: none below", () -> p().law(-1, 1));
    kit.argument("4: too many", () -> p().law(0, 21));
    same("4: the tape stays", p().count(1), 20);
    kit.fresh();
    kit.feed("1" + " ".repeat(150));
    kit.argument("4: 151", () -> p().law(0, 151));
    same("4: 150", p().law(0, 150), 1);
    same("4: WORKS are kept by a LAW", p().count(2), 0);
  }

  /** The value of a HARM law at X 1, Y 1 of a pit that has some of all. */
  private static void value(String law, int due) {
    same("4: " + law + " is read", kit.law(1, law), 1);
    same("4: " + law, p().harm(1, 1), due);
  }

  private static void lawWords() {
    fresh("size 4 3;seam 0 0 4 3 2 3;water 1 0;seam 1 1 1 1 4 7;shaft 0;shaft 1;shaft 2;crew 9;");
    value("kind", 4);
    value("bars", 7);
    value("deep", 1);
    value("over", 5);
    value("open", 0);
    value("props", 0);
    value("wide", 1);
    value("shift", 1);
    kit.law(0, "0");
    same("4: work", kit.work("dig 0 0;dig 0 1;prop 0 1;dig 2 0;dig 2 1;prop 2 1;shift;"), 7);
    value("props", 2);
    value("shift", 2);
    value("open", 0);
    kit.work("dig 1 0;pump;dig 1 1;");
    value("open", 1);
    value("wide", 1);
    value("1 + 2 * 3", 7);
    value("(1 + 2) * 3", 9);
    value("9 - 3 - 2", 4);
    value("100 / 7 / 2", 7);
    value("7 / 0", 0);
    value("5 + 7 / (3 - 3)", 5);
    value("(0 - 7) / 2 + 5", 2);
    value("least[3,5]", 3);
    value("most[3,5]", 5);
    value("most [ least [ 9 , 4 ] , 2 ] * 2", 8);
    value("0 - 5", 0);
    value("999", 99);
    // 999 * 999 * 999 * 3 wraps to -1,303,958,299.
    value("(0 - 999*999*999*3) / 999 / 999 / 31", 42);
    value("999*999*999*3", 0);
    value("((((((7))))))", 7);
    value("least[1,((((least[2,3]))))]", 1);
    same("4: rock has no KIND above", p().harm(0, 0), 1);
    kit.law(1, "over + 10 * open + kind");
    same("4: of the top row", p().harm(3, 0), 2);
  }

  private static void work() {
    fresh(PIT);
    same("5: STEPS done", kit.work("dig 1 0;dig 2 0;dig 1 1;dig 2 1;prop 1 0;pump;"), 4);
    same("5: refused", p().told(9), 2);
    same("5: a fault", kit.work("shift;dig 9 0;"), -8);
    same("5: none is done", p().told(3), 1);
    same("5: refused ones stay", p().told(9), 2);
    same("5: it is no WORK", p().count(2), 1);
    same("5: sells", kit.work("sell 1 3;sell 1 1;sell 1 1;sell 2 5;"), 3);
    same("5: pence", p().told(6), 4 + 20);
    same("5: sold", p().kind(1, 2), 4);
    same("5: the BELT", p().kind(1, 1), 0);
    same("5: agains are not counted", kit.work("again 2[shift;again 0[shift;];];"), 2);
    same("5: nor refused", p().told(9), 0);
    same("5: no STEPS", kit.work(""), 0);
    kit.feed("shift;");
    kit.argument("5: too many", () -> p().work(21));
    kit.argument("5: too few", () -> p().work(-1));
    p().pit(0);
    kit.feed("shift;" + " ".repeat(150));
    kit.argument("5: 151", () -> p().work(151));
    same("5: 150", p().work(150), 1);
    fresh("shaft 0;store 1;crew 9;");
    same("5: a PROP at most", kit.work("prop 0 0;dig 0 0;prop 0 0;prop 0 0;dig 0 1;prop 0 1;dig 0 0;"), 3);
    same("5: no PROP is left", p().told(5), 0);
    same("5: PROPPED", p().cell(0, 0, 2), 2);
    same("5: DUG", p().cell(0, 1, 2), 1);
  }

  private static void workLimits() {
    fresh("");
    same("5: 200 are begun, agains too", kit.work("again 20[again 20[shift;];];"), 189);
    same("5: SHIFT", p().told(3), 190);
    same("5: to SHIFT 200", kit.work("again 20[shift;];"), 10);
    same("5: then refused", p().told(9), 10);
    same("5: SHIFT 200", p().told(3), 200);
    same("5: 200 are begun, refused ones too", kit.work("again 20[again 20[pump;];];"), 0);
    same("5: of these refused", p().told(9), 189);
    same("5: what comes behind is left out", kit.work("again 20[again 9[pump;];];prop 0 0;"), 0);
    same("5: refused ones", p().told(9), 180 - 1);
    fresh("shaft 0;crew 9;");
    same("5: 16 WORKS", kit.work(""), 0);
    for (int i = 2; i <= 16; i++) {
      same("5: a WORK", kit.work("shift;"), 1);
    }
    kit.argument("5: the exception ahead", () -> p().work(1));
    same("5: a 17th", kit.work("nonsense"), -20);
    same("5: it has no fault", p().fault(), -1);
    same("5: the tape is empty", p().count(1), 0);
    same("5: SHIFT stays", p().told(3), 16);
    same("5: undone", p().undo(), 15);
    same("5: again one", kit.work("nonsense"), -9);
    same("5: again one", kit.work("shift;"), 1);
  }

  private static void book() {
    fresh(PIT);
    same("6: lines", kit.book("0 3;1 0;"), 2);
    same("6: told", p().told(10), 2);
    same("6: a fault", kit.book("2 0;2 1;"), -8);
    same("6: its place", p().fault(), 4);
    same("6: it stays", p().told(10), 2);
    same("6: 8 lines", kit.book("0 0;1 1;2 2;3 3;4 4;5 5;6 6;7 0;"), 8);
    same("6: empty", kit.book("  "), 0);
    same("6: told", p().told(10), 0);
    kit.argument("6: too many", () -> p().book(1));
    kit.argument("6: too few", () -> p().book(-1));
    kit.feed("1 1;" + " ".repeat(100));
    kit.argument("6: 101", () -> p().book(101));
    same("6: 100", p().book(100), 1);
  }

  private static void fault() {
    fresh("");
    same("7: without", p().fault(), -1);
    kit.law(0, "wide+");
    same("7: at the length", p().fault(), 5);
    p().undo();
    p().restore();
    same("7: it stays", p().fault(), 5);
    kit.book("");
    same("7: of the latest", p().fault(), -1);
  }

  private static void undo() {
    fresh(PIT);
    same("8: none", p().undo(), -1);
    kit.work("dig 1 0;");
    kit.work("");
    kit.work("prop 0 0;");
    kit.law(1, "7");
    same("8: refused", p().told(9), 1);
    same("8: all refused", p().undo(), 2);
    same("8: no refused behind", p().told(9), 0);
    same("8: of no STEPS", p().undo(), 1);
    same("8: DUG", p().cell(1, 0, 2), 1);
    same("8: dug", p().undo(), 0);
    same("8: WHOLE", p().cell(1, 0, 2), 0);
    same("8: BELT", p().kind(1, 1), 0);
    same("8: digs", p().told(4), 3);
    same("8: HARM", p().told(7), 0);
    same("8: raised", p().sums(0), 0);
    same("8: none is left", p().undo(), -1);
    same("8: LAWS stay", p().harm(0, 0), 7);
    kit.work("dig 1 0;dig 1 1;dig 2 0;prop 1 0;shift;dig 2 1;shift;");
    p().undo();
    same("8: SHIFT", p().told(3), 1);
    same("8: PROPS", p().told(5), 2);
    same("8: ORDER", p().order(0, 3), 0);
    same("8: pence", p().told(6), 0);
    same("8: gone", p().kind(1, 3), 0);
  }

  private static void told() {
    fresh(PIT);
    kit.work("dig 1 0;dig 1 1;prop 1 1;shift;dig 0 1;dig 0 2;");
    int[] due = {4, 3, 2, 2, 1, 1, 5, 2 + 10, 2, 0, 0};
    for (int what = 0; what < due.length; what++) {
      same("9: told " + what, p().told(what), due[what]);
    }
    kit.argument("9: 11", () -> p().told(11));
    kit.argument("9: -1", () -> p().told(-1));
  }

  private static void cells() {
    fresh(PIT);
    kit.law(0, "wide - 3");
    kit.work("dig 1 0;dig 1 1;prop 1 1;dig 2 1;shift;dig 2 0;dig 3 0;dig 0 0;");
    same("10: KIND", p().cell(3, 1, 0), 3);
    same("10: BARS as told", p().cell(1, 1, 1), 5);
    same("10: WHOLE", p().cell(3, 1, 2), 0);
    same("10: DUG", p().cell(2, 1, 2), 1);
    same("10: PROPPED", p().cell(1, 1, 2), 2);
    same("10: FALLEN", p().cell(0, 0, 2), 3);
    same("10: wide", p().cell(2, 1, 3), 1);
    same("10: wide of a PROPPED one", p().cell(1, 1, 3), 0);
    same("10: wide of a FALLEN one", p().cell(1, 0, 3), 0);
    p().undo();
    kit.work("dig 1 0;dig 2 0;dig 3 0;");
    same("10: wide 3", p().cell(1, 0, 3), 3);
    kit.index("10: no X", () -> p().cell(4, 0, 9));
    kit.index("10: no Y", () -> p().cell(0, 3, 0));
    kit.index("10: below X", () -> p().cell(-1, 0, 0));
    kit.index("10: below Y", () -> p().cell(0, -1, 0));
    kit.argument("10: no such", () -> p().cell(0, 0, 4));
    kit.argument("10: below", () -> p().cell(0, 0, -1));
  }

  private static void kinds() {
    fresh(PIT);
    kit.work("dig 1 0;dig 1 1;sell 2 2;shift;");
    int[][] due = {{6, 1, 0, 1, 1}, {5, 2, 2, 1, 4}, {9, 0, 0, 0, 7}, {0, 0, 0, 0, 1}};
    for (int kind = 1; kind <= 4; kind++) {
      for (int what = 0; what < 5; what++) {
        same("11: kind " + kind + " " + what, p().kind(kind, what), due[kind - 1][what]);
      }
    }
    kit.argument("11: rock", () -> p().kind(0, 0));
    kit.argument("11: water", () -> p().kind(5, 0));
    kit.argument("11: no such", () -> p().kind(1, 5));
    kit.argument("11: below", () -> p().kind(1, -1));
  }

  private static void orders() {
    fresh(PIT);
    same("12: T", p().order(1, 0), 2);
    same("12: BARS", p().order(1, 1), 3);
    same("12: worth", p().order(0, 2), 5);
    same("12: open", p().order(0, 3), 0);
    same("13: KIND", p().note(0, 0), 1);
    same("13: KIND", p().note(0, 1), 2);
    same("14: all are lacking", p().lacks(1), 3);
    kit.work("dig 1 0;dig 1 1;sell 2 3;shift;");
    same("12: DONE", p().order(0, 3), 1);
    same("14: lacking", p().lacks(1), 2);
    same("14: lacking for one that is DONE", p().lacks(0), 0);
    kit.work("shift;");
    same("12: FAILED", p().order(1, 3), 2);
    same("12: a FAILED one takes nothing", p().kind(2, 1), 1);
    kit.element("12: none", () -> p().order(2, 9));
    kit.element("12: below", () -> p().order(-1, 0));
    kit.argument("12: no such", () -> p().order(0, 4));
    kit.argument("12: below", () -> p().order(0, -1));
    kit.element("13: none", () -> p().note(2, 9));
    kit.argument("13: past it", () -> p().note(0, 2));
    kit.argument("13: below", () -> p().note(0, -1));
    kit.element("14: none", () -> p().lacks(2));
    kit.element("14: below", () -> p().lacks(-1));
  }

  private static void shifts() {
    fresh("size 1 1;seam 0 0 1 1 1 3;shaft 0;price 1 5;order 1 1 1 end;order 1 1 1 end;order 1 1 end;");
    kit.work("dig 0 0;shift;");
    same("5: ORDERS as told: the first", p().order(0, 3), 1);
    same("5: the second lacks", p().order(1, 3), 2);
    same("5: the third has", p().order(2, 3), 1);
    same("5: paid", p().told(6), 15);
    same("5: gone", p().kind(1, 3), 3);
  }

  private static void canDig() {
    fresh("size 3 4;water 1 1;shaft 1;crew 2;");
    same("15: yes", p().can(1, 0), 0);
    same("15: not at HAND", p().can(0, 0), 2);
    same("15: a shaft is for CELL 0", p().can(1, 1), 2);
    kit.work("dig 1 0;");
    same("15: OPEN", p().can(1, 0), 1);
    same("15: below", p().can(1, 1), 0);
    same("15: beside", p().can(2, 0), 0);
    same("15: no corner", p().can(2, 1), 2);
    kit.work("dig 1 1;");
    same("15: the crew", p().can(0, 0), 4);
    same("15: WET ahead of the crew", p().can(0, 1), 3);
    same("15: not at HAND ahead of WET", p().can(0, 3), 2);
    same("15: OPEN ahead of WET", p().can(1, 1), 1);
    kit.index("15: none", () -> p().can(3, 0));
    kit.index("15: none", () -> p().can(0, 4));
  }

  /** Rows of 8 lie behind each other in 8 Y and X; yet a row's end is not beside the next row's first. */
  private static void edges() {
    fresh("size 8 3;seam 7 0 1 1 4 4;seam 0 1 1 1 4 4;shaft 7;shaft 0;crew 9;");
    kit.law(0, "0");
    kit.work("dig 7 0;");
    same("15: not beside", p().can(0, 1), 2);
    same("20: a way round", p().way(0, 1, 0), 2);
    kit.work("dig 0 0;dig 0 1;");
    same("10: wide to the right", p().cell(7, 0, 3), 1);
    same("10: wide to the left", p().cell(0, 1, 3), 1);
    same("34: at HAND", p().sums(3), 5);
    kit.law(1, "props");
    kit.work("prop 7 0;");
    same("18: none to the left", p().harm(0, 1), 0);
    same("18: one to the right", p().harm(6, 0), 1);
    kit.work("prop 0 1;");
    same("18: none to the right", p().harm(7, 0), 0);
    same("18: one to the left", p().harm(1, 1), 1);
    fresh("size 8 2;shaft 0;");
    kit.work("dig 0 0;dig 0 1;");
    same("15: nor the other way", p().can(7, 0), 2);
  }

  private static void fallsAndRisks() {
    fresh(ROW);
    kit.law(0, "0");
    kit.work("dig 0 0;dig 1 0;dig 2 0;prop 1 0;dig 3 0;dig 4 0;dig 5 0;");
    kit.law(0, "wide - 2");
    kit.yes("16: would FALL", p().falls(3, 0));
    kit.yes("16: alone", !p().falls(0, 0));
    kit.yes("16: PROPPED", !p().falls(1, 0));
    kit.yes("16: WHOLE", !p().falls(6, 0));
    same("17: with another", p().risks(6, 0), 5);
    same("17: another row", p().risks(0, 1), 4);
    same("17: OPEN", p().risks(0, 0), -1);
    same("17: not at HAND", p().risks(7, 0), -1);
    kit.law(0, "0 - 1 + kind");
    same("17: above 0", p().risks(6, 0), 0);
    kit.index("16: none", () -> p().falls(8, 0));
    kit.index("17: none", () -> p().risks(0, 2));
    fresh("size 3 2;water 0 1;shaft 0;shaft 1;crew 2;");
    kit.work("dig 0 0;dig 0 1;");
    same("17: WET and the crew done", p().risks(1, 1), 0);
    kit.law(0, "1");
    same("17: all", p().risks(1, 1), 3);
    same("17: the crew done", p().risks(1, 0), 3);
    // All fall at once, as they stood: a chain that one after the other would break stays whole.
    fresh(ROW);
    kit.work("dig 0 0;dig 1 0;dig 2 0;");
    same("5: all three fell", p().sums(1), 3);
    same("5: none is open", p().open(0), 0);
    same("5: a FALLEN one has no BARS", kit.work("dig 0 0;"), 1);
    same("5: BARS dug", p().sums(0), 3);
    same("5: wide ones fall again", kit.work("dig 1 0;dig 2 0;"), 2);
    same("5: each time", p().sums(1), 6);
  }

  private static void water() {
    fresh("size 3 3;seam 0 2 3 1 1 1;water 1 1;water 0 0;shaft 1;shaft 0;crew 9;");
    kit.work("dig 1 0;dig 1 1;");
    same("5: WET from its row on", p().told(8), 1);
    same("5: WET is refused", kit.work("dig 0 1;dig 1 2;prop 1 1;"), 0);
    same("5: higher", kit.work("dig 0 0;"), 1);
    same("5: WET from the top", p().told(8), 0);
    same("5: all is WET", kit.work("dig 2 0;prop 1 0;"), 0);
    same("5: digs left", p().told(4), 6);
    same("5: pumped", kit.work("pump;"), 1);
    same("5: pumping takes a dig", p().told(4), 5);
    same("5: dry", p().told(8), 3);
    same("5: dry is refused", kit.work("pump;dig 2 0;"), 1);
    same("5: refused", p().told(9), 1);
    fresh("size 2 2;water 0 0;shaft 0;crew 1;");
    kit.work("dig 0 0;pump;");
    same("5: a crew that is done can't pump", p().told(9), 1);
    same("5: still WET", p().told(8), 0);
    same("5: the next SHIFT", kit.work("shift;pump;dig 1 0;"), 2);
    same("5: then it can't dig", p().told(9), 1);
    // Water that fell is dry when it is dug again.
    fresh("size 1 1;water 0 0;shaft 0;");
    kit.law(0, "1");
    kit.work("dig 0 0;pump;dig 0 0;");
    same("5: no water twice", p().told(8), 1);
    same("5: fell twice", p().sums(1), 2);
  }

  private static void harm() {
    fresh(PIT);
    same("18: KIND", p().harm(3, 1), 3);
    same("18: rock", p().harm(3, 2), 0);
    same("18: water", p().harm(0, 2), 5);
    kit.law(1, "kind * 50 - 60");
    same("18: 0 at least", p().harm(0, 0), 0);
    same("18: between", p().harm(1, 1), 40);
    same("18: 99 at most", p().harm(0, 2), 99);
    kit.work("dig 1 0;dig 1 1;");
    same("18: in all", p().told(7), 200);
    kit.index("18: none", () -> p().harm(4, 0));
  }

  private static void best() {
    fresh(PIT);
    same("19: none", p().best(0, 0), 0);
    same("19: none", p().best(0, 1), 0);
    same("19: pence", p().best(3, 0), 42);
    same("19: CELLS", p().best(3, 1), (2 * 64 + 10) * 64 + 11);
    same("19: nothing stays", p().sums(0), 0);
    kit.work("dig 1 0;dig 1 1;dig 2 1;");
    same("19: the crew is not asked", p().best(1, 0), 63);
    same("19: CELLS", p().best(1, 1), 12);
    kit.argument("19: 4", () -> p().best(4, 0));
    kit.argument("19: -1", () -> p().best(-1, 0));
    kit.argument("19: no such", () -> p().best(0, 2));
    kit.argument("19: below", () -> p().best(0, -1));
    fresh("size 3 2;seam 0 0 3 2 1 2;shaft 0;shaft 2;");
    same("19: of alike ones the first", p().best(1, 1), 1);
    same("19: rows rising", p().best(2, 1), 1 * 64 + 2);
    fresh("size 3 2;seam 0 0 1 1 1 2;shaft 0;shaft 2;");
    same("19: the fewest", p().best(3, 1), 1);
    fresh("size 2 3;water 0 0;seam 0 1 1 2 1 5;shaft 0;");
    same("19: no way through water", p().best(3, 0), 0);
    same("19: nor anything", p().best(3, 1), 0);
    fresh("size 2 2;seam 0 1 1 1 1 5;shaft 0;");
    kit.law(0, "deep + 1");
    same("19: what FELL is not at HAND", p().best(3, 0), 0);
    kit.law(0, "wide - 1");
    same("19: it stands", p().best(3, 0), 5);
  }

  private static void way() {
    fresh(PIT);
    same("20: one", p().way(1, 0, 0), 1);
    same("20: its BARS", p().way(1, 0, 1), 2);
    same("20: four", p().way(3, 1, 0), 4);
    same("20: most BARS", p().way(3, 1, 1), 2 + 5 + 5 + 9);
    same("20: to water", p().way(0, 2, 0), 4);
    kit.work("dig 1 0;");
    same("20: OPEN", p().way(1, 0, 0), 0);
    same("20: OPEN, no BARS", p().way(1, 0, 1), 0);
    kit.index("20: none", () -> p().way(4, 0, 9));
    kit.argument("20: no such", () -> p().way(0, 0, 2));
    kit.argument("20: below", () -> p().way(0, 0, -1));
    fresh("size 3 2;water 1 0;water 1 1;seam 2 1 1 1 1 9;shaft 0;crew 9;");
    same("20: no way through water", p().way(2, 1, 0), -1);
    same("20: no BARS", p().way(2, 1, 1), -1);
    same("20: water itself", p().way(1, 1, 0), 3);
    kit.work("dig 0 0;dig 1 0;");
    same("20: through OPEN water, WET or not", p().way(2, 1, 0), 2);
    same("20: BARS", p().way(2, 1, 1), 9);
    fresh("size 1 3;seam 0 0 1 3 1 4;shaft 0;");
    kit.law(0, "1");
    kit.work("dig 0 0;");
    same("20: FALLS not asked", p().way(0, 2, 0), 3);
    same("20: no BARS of a FALLEN one", p().way(0, 2, 1), 8);
  }

  private static void hold() {
    fresh(ROW);
    same("21: none", p().hold(0), 0);
    same("21: no CELLS", p().hold(1), 0);
    kit.law(0, "0");
    kit.work("dig 0 0;dig 1 0;dig 2 0;dig 3 0;dig 4 0;dig 5 0;dig 6 0;dig 7 0;");
    kit.law(0, "wide - 2");
    same("21: 8 wide by two", p().hold(0), 2);
    same("21: the first", p().hold(1), 3 * 64 + 6);
    kit.law(0, "wide - 3");
    same("21: 8 wide by 2 of four", p().hold(0), 2);
    same("21: the first", p().hold(1), 1 * 64 + 5);
    kit.law(0, "wide - 1");
    same("21: 8 wide by four", p().hold(0), 4);
    same("21: the first", p().hold(1), ((1 * 64L + 3) * 64 + 5) * 64 + 7);
    kit.law(0, "wide");
    same("21: not by 4", p().hold(0), -1);
    same("21: no CELLS", p().hold(1), -1);
    kit.law(0, "deep * 2");
    same("21: the top row stands", p().hold(0), 0);
    same("21: nothing stays", p().open(0), 255);
    same("21: all DUG", p().cell(2, 0, 3), 8);
    kit.law(0, "3 - wide");
    same("21: by PROPS it would FALL", p().hold(0), 0);
    kit.argument("21: no such", () -> p().hold(2));
    kit.argument("21: below", () -> p().hold(-1));
    fresh("size 3 3;shaft 0;crew 9;store 0;");
    kit.law(0, "0");
    kit.work("dig 0 0;dig 1 0;dig 2 0;dig 0 1;dig 0 2;dig 1 2;dig 2 2;");
    kit.law(0, "wide - 2");
    same("21: two rows, the store not asked", p().hold(0), 2);
    same("21: rising", p().hold(1), 1 * 64 + 17);
    kit.law(0, "wide * (1 - props)");
    same("21: PROPS beside", p().hold(0), 3);
    same("21: which", p().hold(1), (2 * 64 + 9) * 64 + 18);
  }

  private static void fill() {
    fresh("size 1 1;seam 0 0 1 1 1 9;shaft 0;price 1 3;"
        + "order 2 1 1 1 1 1 1 end;order 3 1 1 1 1 end;order 4 1 1 1 1 1 end;order 1 1 end;order 2 2 end;");
    same("22: nothing", p().fill(0), 0);
    same("22: none", p().fill(1), 0);
    kit.work("dig 0 0;");
    same("22: pence", p().fill(0), 27);
    same("22: 4 and 5, not 6 and 1", p().fill(1), 2 + 4);
    kit.work("shift;");
    // One BAR is gone: of 8 no two of 6, 4 and 5 can be had.
    same("22: one is gone", p().fill(0), 18);
    same("22: the first", p().fill(1), 1);
    kit.argument("22: no such", () -> p().fill(2));
    kit.argument("22: below", () -> p().fill(-1));
    fresh("size 1 1;seam 0 0 1 1 1 2;shaft 0;order 1 1 end;order 1 1 end;order 2 1 1 end;order 2 2 end;price 2 0;");
    kit.work("dig 0 0;");
    same("22: the least bits", p().fill(1), 3);
    same("22: for two", p().fill(0), 2);
  }

  private static void taps() {
    fresh("size 5 4;seam 1 2 1 1 1 1;seam 2 0 1 1 4 1;water 3 0;seam 3 1 1 3 2 1;");
    int[] due = {4, 2, 0, 1, 4};
    for (int x = 0; x < 5; x++) {
      same("23: tap " + x, p().tap(x), due[x]);
      for (int s = -7; s <= 7; s++) {
        same("24: moved " + x + " " + s, p().moved(x, s), x - s >= 0 && x - s < 5 ? due[x - s] : 4);
      }
    }
    kit.argument("23: none", () -> p().tap(5));
    kit.argument("23: below", () -> p().tap(-1));
    kit.argument("24: none", () -> p().moved(5, 0));
    kit.argument("24: 8", () -> p().moved(0, 8));
    kit.argument("24: -8", () -> p().moved(0, -8));
    same("25: all", p().fits(), 32767);
    kit.book("2 2;");
    same("25: by 1", p().fits(), 1 << 8);
    kit.book("2 4;");
    int bits = 32767 & ~(1 << 7 - 1 | 1 << 7 | 1 << 7 + 1);
    same("25: by what has none", p().fits(), bits);
    same("26: the column", p().next(0), nextColumn(bits, due));
    same("26: at the worst", p().next(1), nextWorst(bits, due));
    kit.book("5 4;");
    same("25: no such column", p().fits(), 0);
    same("26: the first", p().next(0), 0);
    same("26: none is left", p().next(1), 0);
    kit.book("0 4;1 2;2 0;3 1;4 4;");
    same("25: as told", p().fits(), 1 << 7);
    same("26: each is in a line", p().next(0), -1);
    same("26: each is in a line", p().next(1), -1);
    kit.argument("26: no such", () -> p().next(2));
    kit.argument("26: below", () -> p().next(-1));
    kit.work("shift;");
    fresh("size 2 2;seam 0 0 1 1 1 1;shaft 0;");
    kit.work("dig 0 0;");
    same("23: as told, though it is dug", p().tap(0), 0);
  }

  private static int worst(int bits, int[] taps, int x) {
    int most = 0;
    for (int says = 0; says <= 4; says++) {
      int left = 0;
      for (int s = -7; s <= 7; s++) {
        int heard = x - s >= 0 && x - s < 5 ? taps[x - s] : 4;
        left += (bits >> s + 7 & 1) == 1 && heard == says ? 1 : 0;
      }
      most = Math.max(most, left);
    }
    return most;
  }

  private static int nextColumn(int bits, int[] taps) {
    int best = -1;
    for (int x = 4; x >= 0; x--) {
      if (x != 2 && (best < 0 || worst(bits, taps, x) <= worst(bits, taps, best))) {
        best = x;
      }
    }
    return best;
  }

  private static int nextWorst(int bits, int[] taps) {
    return worst(bits, taps, nextColumn(bits, taps));
  }

  private static void canon() {
    fresh("size 3 4;seam 0 0 1 1 3 1;seam 0 1 1 1 1 1;seam 0 2 1 1 2 1;seam 0 3 1 1 1 1;"
        + "seam 1 0 1 1 1 1;seam 1 1 1 1 2 1;seam 1 2 1 1 1 1;water 2 0;water 2 1;");
    same("27: one further down", p().canon(0, 1, 0), 1);
    same("27: three agree", p().canon(0, 1, 1), 3);
    same("27: the other way", p().canon(1, 0, 1), 1);
    same("27: the least such", p().canon(1, 0, 0), 1);
    same("27: with itself", p().canon(0, 0, 0), 0);
    same("27: with itself", p().canon(0, 0, 1), 4);
    same("27: water and rock don't agree", p().canon(2, 2, 1), 0);
    same("27: none", p().canon(2, 2, 0), 0);
    kit.argument("27: none", () -> p().canon(3, 0, 0));
    kit.argument("27: no other", () -> p().canon(0, 3, 0));
    kit.argument("27: below", () -> p().canon(-1, 0, 0));
    kit.argument("27: below", () -> p().canon(0, -1, 0));
    kit.argument("27: no such", () -> p().canon(0, 0, 2));
  }

  private static void owners() {
    fresh("price 1 3;price 2 0;price 3 99;price 4 10;");
    same("28: none brought", p().owners(3, 0, 0), 1);
    same("28: none brought", p().owners(3, 0, 1), 0);
    same("28: all they have", p().owners(3, 20, 0), 1);
    same("28: all they have", p().owners(3, 20, 1), 2020);
    same("28: each gets", p().owners(3, 20, 2), 20 * 59);
    same("28: for nothing", p().owners(2, 4, 0), 25);
    // At 3: 0 1 is bettered by 1 1 (1); at 1 1 each gets 1, by 2 it would get 0: a REST.
    same("28: at 3", p().owners(1, 1, 0), 1);
    same("28: at 3", p().owners(1, 1, 1), 101);
    same("28: at 3", p().owners(1, 1, 2), 1);
    kit.argument("28: rock", () -> p().owners(0, 1, 0));
    kit.argument("28: water", () -> p().owners(5, 1, 0));
    kit.argument("28: 21", () -> p().owners(1, 21, 0));
    kit.argument("28: -1", () -> p().owners(1, -1, 0));
    kit.argument("28: no such", () -> p().owners(1, 1, 3));
    kit.argument("28: below", () -> p().owners(1, 1, -1));
  }

  private static void faces() {
    fresh("size 8 3;seam 5 0 3 1 1 1;seam 0 1 3 1 1 1;seam 4 1 3 2 2 2;shaft 6;crew 9;");
    same("29: no row goes on in the next", p().face(1, 0), 3);
    same("29: the first", p().face(1, 1), 5);
    same("29: KIND 2", p().face(2, 1), 12);
    same("29: none", p().face(3, 0), 0);
    same("29: none", p().face(3, 1), -1);
    same("30: most BARS", p().level(), 1);
    same("31: next", p().pick(), 6);
    kit.work("dig 6 0;dig 6 1;dig 5 1;");
    same("29: WHOLE ones", p().face(1, 1), 8);
    same("29: WHOLE ones", p().face(2, 0), 3);
    same("29: WHOLE ones", p().face(2, 1), 20);
    same("30: WHOLE ones", p().level(), 2);
    same("31: most BARS", p().pick(), 12);
    kit.argument("29: rock", () -> p().face(0, 0));
    kit.argument("29: water", () -> p().face(5, 0));
    kit.argument("29: no such", () -> p().face(1, 2));
    kit.argument("29: below", () -> p().face(1, -1));
    fresh("size 2 2;water 0 0;shaft 0;");
    same("31: no water", p().pick(), -1);
    same("30: the first", p().level(), 0);
    fresh("size 2 2;shaft 0;water 1 0;crew 1;");
    kit.work("dig 0 0;");
    same("31: rock, the crew not asked", p().pick(), 8);
    kit.work("shift;dig 1 0;shift;");
    same("31: nothing WET", p().pick(), -1);
    fresh("size 3 1;seam 1 0 1 1 1 1;shaft 0;shaft 1;crew 9;");
    kit.law(0, "1");
    kit.work("dig 1 0;");
    same("31: a FALLEN one counts 0", p().pick(), 0);
  }

  private static int strikes(int seed, int q, int shifts) {
    int many = 0;
    for (int i = 0; i < shifts; i++) {
      seed = seed * 1103515245 + 12345;
      many += ((seed >> 16) & 0x7fff) % 16 < q ? 1 : 0;
    }
    return many;
  }

  private static void decades() {
    fresh("size 4 1;seam 0 0 4 1 3 2;shaft 0;crew 1;");
    same("32: BARS", p().decade(5, 0, 2, 0), 4);
    same("32: none fell", p().decade(5, 0, 2, 1), 0);
    same("32: three fell", p().decade(5, 0, 3, 1), 3);
    same("32: HARM", p().decade(5, 0, 3, 3), 18);
    same("32: a strike always", p().decade(5, 16, 7, 2), 7);
    same("32: no BARS by strikes", p().decade(5, 16, 7, 0), 0);
    for (int seed = -3; seed < 9; seed++) {
      same("32: strikes", p().decade(seed, 5, 40, 2), strikes(seed, 5, 40));
      same("32: BARS by strikes", p().decade(seed, 5, 2, 0), 4 - 2 * strikes(seed, 5, 2));
    }
    same("32: nothing stays", p().told(3), 1);
    same("32: nothing stays", p().sums(0), 0);
    kit.work("dig 0 0;");
    same("32: of this SHIFT's digs none is left", p().decade(5, 0, 1, 0), 0);
    same("32: BARS in it alone", p().decade(5, 0, 2, 0), 2);
    int fewest = 99;
    int most = 0;
    for (int seed = 7; seed < 13; seed++) {
      int bars = p().decade(seed, 8, 3, 0);
      fewest = Math.min(fewest, bars);
      most = Math.max(most, bars);
    }
    same("33: the fewest", p().span(7, 6, 8, 3, 0), fewest);
    same("33: the most", p().span(7, 6, 8, 3, 1), most);
    same("33: none fell", p().span(7, 6, 16, 3, 2), 6);
    same("33: all fell", p().span(7, 6, 0, 40, 2), 0);
    same("33: seeds wrap", p().span(Integer.MAX_VALUE, 2, 8, 3, 1),
        Math.max(p().decade(Integer.MAX_VALUE, 8, 3, 0), p().decade(Integer.MIN_VALUE, 8, 3, 0)));
    kit.argument("32: Q 17", () -> p().decade(1, 17, 1, 0));
    kit.argument("32: Q -1", () -> p().decade(1, -1, 1, 0));
    kit.argument("32: no SHIFT", () -> p().decade(1, 0, 0, 0));
    kit.argument("32: 41", () -> p().decade(1, 0, 41, 0));
    kit.argument("32: no such", () -> p().decade(1, 0, 1, 4));
    kit.argument("32: below", () -> p().decade(1, 0, 1, -1));
    kit.argument("33: no SEED", () -> p().span(1, 0, 0, 1, 0));
    kit.argument("33: 21", () -> p().span(1, 21, 0, 1, 0));
    kit.argument("33: Q 17", () -> p().span(1, 1, 17, 1, 0));
    kit.argument("33: 41", () -> p().span(1, 1, 0, 41, 0));
    kit.argument("33: no such", () -> p().span(1, 1, 0, 1, 3));
    kit.argument("33: below", () -> p().span(1, 1, 0, 1, -1));
    fresh("size 4 1;seam 0 0 4 1 3 2;shaft 0;crew 1;");
    kit.work("again 20[again 20[shift;];];");
    kit.work("again 20[shift;];");
    same("32: from SHIFT 200 on the crew gets no new digs", p().decade(5, 0, 9, 0), 2);
  }

  private static void sums() {
    fresh(PIT);
    same("34: at HAND", p().sums(3), 1);
    kit.work("dig 1 0;dig 1 1;prop 1 1;");
    int[] due = {7, 0, 2, 5};
    for (int what = 0; what < 4; what++) {
      same("34: sums " + what, p().sums(what), due[what]);
    }
    same("35: row 0", p().open(0), 2);
    same("35: a PROPPED one", p().open(1), 2);
    same("35: none", p().open(2), 0);
    kit.argument("34: no such", () -> p().sums(4));
    kit.argument("34: below", () -> p().sums(-1));
    kit.argument("35: no row", () -> p().open(3));
    kit.argument("35: below", () -> p().open(-1));
  }

  private static void images() {
    fresh(PIT);
    kit.work("dig 1 0;");
    same("36: one", p().image(), 1);
    kit.work("dig 1 1;prop 0 0;");
    same("36: two", p().image(), 2);
    kit.work("shift;");
    same("36: three", p().image(), 3);
    same("36: no fourth", p().image(), -1);
    same("36: three", p().count(0), 3);
    p().undo();
    p().undo();
    p().undo();
    kit.work("shift;shift;");
    kit.law(1, "9");
    kit.book("0 0;");
    same("37: two are left", p().restore(), 2);
    same("37: SHIFT", p().told(3), 2);
    same("37: WORKS", p().count(2), 3);
    same("37: undone", p().undo(), 2);
    same("37: SHIFT", p().told(3), 1);
    kit.work("prop 3 2;");
    same("9: refused", p().told(9), 1);
    same("37: one is left", p().restore(), 1);
    same("9: no refused behind", p().told(9), 0);
    same("37: BELT", p().kind(2, 1), 5);
    same("37: LAWS stay", p().harm(0, 0), 9);
    same("37: the BOOK stays", p().told(10), 1);
    same("37: none is left", p().restore(), 0);
    same("37: BELT", p().kind(2, 1), 0);
    same("37: WORKS", p().undo(), 0);
    same("37: WHOLE", p().cell(1, 0, 2), 0);
    same("37: none", p().restore(), -1);
  }

  private static void status() {
    fresh(PIT);
    kit.index("38", () -> p().cell(9, 9, 9));
    kit.index("38", () -> p().can(9, 9));
    kit.index("38", () -> p().way(-1, 0, 0));
    kit.element("38", () -> p().order(9, 0));
    kit.argument("38", () -> p().told(99));
    kit.argument("38", () -> p().pit(9));
    same("38: one image", p().image(), 1);
    kit.element("38", () -> p().lacks(9));
    p().restore();
    kit.pit("");
    same("38: 0", p().status(0), 3);
    same("38: 1", p().status(1), 2);
    same("38: 2", p().status(2), 2);
    same("38: others", p().status(3), -1);
    same("38: below", p().status(-1), -1);
  }

  private static void count() {
    fresh("");
    p().image();
    kit.work("");
    kit.work("");
    p().feed(1, 2, 3, 4, 5);
    same("39: IMAGES", p().count(0), 1);
    same("39: TAPE", p().count(1), 20);
    same("39: WORKS", p().count(2), 2);
    same("39: others", p().count(3), -1);
    same("39: below", p().count(-1), -1);
  }
}
