/** LAWS and WORK at their edges: what each STEP needs, what it changes, what undo and images bring back. */
public final class WorkEdgeTest {
  private static final int WHOLE = 0;
  private static final int DUG = 1;
  private static final int PROPPED = 2;
  private static final int FALLEN = 3;

  private static final Kit kit = new Kit();

  private static LullabyPit p() {
    return kit.pit;
  }

  private static void same(String what, long got, long due) {
    kit.same(what, got, due);
  }

  private static void fresh(String pit) {
    kit.fresh();
    kit.yes("the pit of a test has no fault", kit.pit(pit) >= 0);
  }

  /** A WORK without a FAULT, of which so many STEPS are done and so many REFUSED. */
  private static void work(String text, int done, int refused) {
    same("5: STEPS done by [" + text + "]", kit.work(text), done);
    same("9: STEPS REFUSED by [" + text + "]", p().told(9), refused);
  }

  private static void law(int which, String text) {
    same("4: [" + text + "] is a LAW", kit.law(which, text), 1);
  }

  /** What WORK changes, in few calls: an object is good for 512 of them. */
  private static String state() {
    StringBuilder s = new StringBuilder();
    for (int what = 3; what <= 8; what++) {
      s.append(p().told(what)).append(' ');
    }
    for (int kind = 1; kind <= 4; kind++) {
      s.append(p().kind(kind, 0)).append(' ').append(p().kind(kind, 1)).append(' ').append(p().kind(kind, 2)).append(' ');
    }
    for (int y = 0; y < p().told(1); y++) {
      s.append(p().open(y)).append(' ');
    }
    for (int order = 0; order < p().told(2); order++) {
      s.append(p().order(order, 3));
    }
    return s.append(p().sums(0)).append(' ').append(p().sums(1)).toString();
  }

  /** A REFUSED STEP changes nothing; its WORK can be undone all the same. */
  private static void refused(String step) {
    String before = state();
    int works = p().count(2);
    work(step, 0, 1);
    kit.yes("5: REFUSED, [" + step + "] changes nothing", before.equals(state()));
    same("8: undone, [" + step + "] leaves those ahead of it", p().undo(), works);
    kit.yes("8: undone, [" + step + "] changes nothing", before.equals(state()));
  }

  public static void main(String[] args) {
    wholePit();
    lastCounts();
    lawNumbers();
    lawWords();
    lawOfHarm();
    lawOfFall();
    lawLater();
    digStates();
    digHand();
    digCrew();
    digBars();
    digWater();
    allAsTheyStood();
    prop();
    pump();
    sell();
    shift();
    lastShift();
    begun();
    sixteen();
    refusedByTheLatest();
    undone();
    imagesKeep();
    otherPasts();
    threeImages();
    kit.end();
  }

  private static void wholePit() {
    fresh("size 8 6;seam 0 0 8 6 1 9;seam 7 5 1 1 4 1;water 0 5;");
    same("10: the first CELL", p().cell(0, 0, 1), 9);
    same("10: the last CELL", p().cell(7, 5, 0), 4);
    same("10: BARS of the last CELL", p().cell(7, 5, 1), 1);
    same("10: water", p().cell(0, 5, 0), 5);
    same("10: no BARS of water", p().cell(0, 5, 1), 0);
    for (int y = 0; y < 6; y++) {
      for (int x = 0; x < 8; x++) {
        same("2.: all are WHOLE at first", p().cell(x, y, 2), WHOLE);
      }
    }
    same("11: BARS of KIND 1", p().kind(1, 0), 46 * 9);
    same("11: BARS of KIND 4", p().kind(4, 0), 1);
    same("3: how many BARS", kit.pit("size 8 6;seam 0 0 8 6 1 9;seam 7 5 1 1 4 1;water 0 5;"), 46 * 9 + 1);
    fresh("size 1 1;");
    same("10: rock", p().cell(0, 0, 0), 0);
    same("10: no BARS of rock", p().cell(0, 0, 1), 0);
    same("15: no shaft", p().can(0, 0), 2);
    kit.index("10: one CELL", () -> p().cell(1, 0, 0));
    kit.index("10: one CELL", () -> p().cell(0, 1, 0));
  }

  private static void lastCounts() {
    fresh("seam 0 0 2 2 1 9;seam 1 1 1 1 2 4;crew 9;crew 2;store 1;store 20;price 1 9;price 2 9;price 1 0;");
    same("1.: the last seam counts", p().cell(1, 1, 0), 2);
    same("1.: with its BARS", p().cell(1, 1, 1), 4);
    same("1.: the one ahead elsewhere", p().cell(0, 1, 1), 9);
    same("1.: the last crew", p().told(4), 2);
    same("1.: the last store", p().told(5), 20);
    same("1.: the last price", p().kind(1, 4), 0);
    same("1.: another KIND's", p().kind(2, 4), 9);
    same("1.: without", p().kind(3, 4), 1);
    fresh("seam 0 0 1 1 1 9;water 0 0;water 1 0;seam 1 0 1 1 3 2;");
    same("1.: water behind a seam", p().cell(0, 0, 0) * 10 + p().cell(0, 0, 1), 50);
    same("1.: a seam behind water", p().cell(1, 0, 0) * 10 + p().cell(1, 0, 1), 32);
    fresh("shaft 1;shaft 1;");
    same("1.: a shaft twice", p().sums(3), 1);
    fresh("shaft 0;shaft 5;");
    same("1.: two shafts", p().sums(3), 2);
  }

  /** HARM of a CELL of KIND 1, 9 BARS, at X 1 Y 1. */
  private static void value(String text, int due) {
    law(1, text);
    same("4: " + text, p().harm(1, 1), due);
  }

  private static void lawNumbers() {
    fresh("size 3 3;seam 1 1 1 1 1 9;");
    value("0", 0);
    value("99", 99);
    value("98 + 1", 99);
    value("100", 99);
    value("999", 99);
    value("0 - 1", 0);
    value("1 - 1", 0);
    value("7 / 2", 3);
    value("50 + (0 - 7) / 2", 47);
    value("50 + 7 / (0 - 2)", 47);
    value("50 + (0 - 7) / (0 - 2)", 53);
    value("50 + 7 / 0", 50);
    value("50 + 0 / 0", 50);
    value("50 + (0 - 7) / (1 - 1)", 50);
    value("9 - 4 - 3", 2);
    value("96 / 4 / 3", 8);
    value("96 / 4 * 3", 72);
    value("7 * 3 / 2", 10);
    value("2 + 3 * 4 - 6 / 2", 11);
    value("(2 + 3) * (4 - 2)", 10);
    value("least[7,7]", 7);
    value("most[7,8] - least[7,8]", 1);
    value("most[0 - 3,0 - 5] + 10", 7);
    value("least[0 - 3,0 - 5] + 10", 5);
    fresh("size 3 3;seam 1 1 1 1 1 9;");
    // 2 to the 31 less 1 is 2,147,483,647: one more wraps to the least number.
    String two31 = "512*512*512*16";
    value("(" + two31 + " - 1) / 999 / 999 / 31", 69);
    value(two31 + " / 999 / 999 / 31 + 80", 11);
    value("(" + two31 + " - 1 + 1) / 999 / 999 / 31 + 80", 11);
    value("(" + two31 + ") / (0 - 1) / 999 / 999 / 31 + 80", 11);
    value(two31 + " * 2 + 5", 5);
    value("0 - " + two31 + " - 1", 99);
    value("999*999*999*5 / 999 / 999 / 10", 69);
    // Six are open, and each keeps a sum, a product and the first of its pair.
    value("1+2*most[0,1+2*most[0,1+2*most[0,1+2*most[0,1+2*most[0,1-2*least[0,0-1*7]]]]]]", 99);
    value("least[90,2+1*most[1,3+1*most[2,4+1*most[3,5+1*most[4,6+1*most[5,7+2*3]]]]]]", 33);
    value("90-1*least[50,2+1*least[51,3+1*least[52,4+1*least[53,5+1*least[54,6-1*5]]]]]", 75);
  }

  private static void lawWords() {
    fresh("size 3 3;seam 0 0 3 3 2 6;water 1 0;seam 1 1 1 1 1 9;shaft 0;shaft 1;shaft 2;crew 9;");
    value("kind", 1);
    value("bars", 9);
    value("deep", 1);
    value("over", 5);
    value("shift", 1);
    value("wide", 1);
    value("open", 0);
    value("props", 0);
    law(0, "0");
    law(1, "over * 10 + open");
    same("4: none above", p().harm(1, 0), 0);
    same("4: KIND 2 above", p().harm(0, 1), 20);
    work("dig 0 0;dig 1 0;pump;dig 2 0;", 4, 0);
    same("4: none above an OPEN one", p().harm(0, 0), 0);
    same("4: DUG above", p().harm(0, 1), 21);
    same("4: water DUG above", p().harm(1, 1), 51);
    work("prop 0 0;", 1, 0);
    same("4: PROPPED above", p().harm(0, 1), 21);
    law(1, "deep");
    same("4: deep at the top", p().harm(2, 0), 0);
    same("4: deep below", p().harm(2, 2), 2);
    law(1, "kind * 10 + bars");
    same("4: BARS as told, KIND as it is", p().harm(0, 0), 26);
    law(1, "wide");
    same("4: wide is 1 for HARM of a DUG one", p().harm(2, 0), 1);
    same("4: wide is 1 for HARM of a WHOLE one", p().harm(2, 2), 1);
    law(0, "deep + 1");
    work("dig 2 1;", 1, 0);
    law(1, "open + 5");
    same("4: a FALLEN one above is not open", p().harm(2, 1), 5);
    law(1, "shift");
    work("shift;shift;", 2, 0);
    same("4: SHIFT 3", p().harm(2, 2), 3);
    sideProps();
  }

  private static void sideProps() {
    fresh("size 4 2;shaft 0;shaft 1;shaft 2;shaft 3;crew 9;");
    law(0, "0");
    law(1, "props");
    work("dig 0 0;dig 1 0;dig 2 0;dig 3 0;", 4, 0);
    same("4: DUG ones are no props", p().harm(1, 0), 0);
    work("prop 0 0;", 1, 0);
    same("4: to the left", p().harm(1, 0), 1);
    same("4: not two away", p().harm(2, 0), 0);
    same("4: not itself", p().harm(0, 0), 0);
    same("4: not above", p().harm(0, 1), 0);
    work("prop 2 0;", 1, 0);
    same("4: to both", p().harm(1, 0), 2);
    same("4: to the right alone", p().harm(3, 0), 1);
    work("prop 3 0;", 1, 0);
    same("4: at the right end", p().harm(2, 0), 1);
  }

  private static void lawOfHarm() {
    fresh("size 3 2;seam 0 0 1 1 4 3;seam 1 0 1 1 2 2;shaft 0;crew 9;");
    same("18: without: kind", p().harm(0, 0), 4);
    work("dig 0 0;", 1, 0);
    same("9: by each BAR", p().told(7), 12);
    law(1, "100");
    work("dig 1 0;", 1, 0);
    same("9: 99 at most by each", p().told(7), 12 + 2 * 99);
    law(1, "0 - 5");
    work("shift;", 1, 0);
    fresh("size 3 2;seam 0 0 3 2 4 3;shaft 0;crew 9;");
    law(1, "0 - 5");
    work("dig 0 0;", 1, 0);
    same("9: 0 at least by each", p().told(7), 0);
    law(1, "99");
    work("dig 0 1;", 1, 0);
    same("9: 99 by each", p().told(7), 297);
    law(0, "1");
    law(1, "1");
    work("dig 1 0;", 1, 0);
    same("9: of a WHOLE one", p().told(7), 300);
    work("dig 0 0;dig 0 0;", 2, 0);
    same("9: none of a FALLEN one", p().told(7), 300);
    fresh("size 2 1;water 0 0;shaft 0;shaft 1;crew 9;");
    law(1, "9");
    work("dig 0 0;pump;dig 1 0;", 3, 0);
    same("9: none of water or rock", p().told(7), 0);
  }

  private static void lawOfFall() {
    fresh("size 8 1;shaft 0;crew 9;");
    work("dig 0 0;dig 1 0;", 2, 0);
    same("1.: wide - 2: two side by side stand", p().sums(1), 0);
    work("dig 2 0;", 1, 0);
    same("1.: wide - 2: three side by side fall", p().sums(1), 3);
    fresh("size 2 2;shaft 0;crew 9;");
    law(0, "0");
    work("dig 0 0;", 1, 0);
    same("1.: 0 is not above 0", p().cell(0, 0, 2), DUG);
    law(0, "0 - 1");
    work("dig 1 0;", 1, 0);
    same("1.: nor is -1", p().sums(1), 0);
    law(0, "1");
    same("1.: a LAW alone lets nothing fall", p().sums(1), 0);
    kit.yes("16: it would", p().falls(0, 0));
    work("prop 0 0;", 1, 0);
    same("1.: nor does a PROP", p().cell(1, 0, 2), DUG);
    kit.yes("16: a PROPPED one would not", !p().falls(0, 0));
    work("pump;shift;sell 1 1;", 1, 2);
    same("1.: nor a SHIFT", p().cell(1, 0, 2), DUG);
    work("dig 0 0;", 0, 1);
    same("1.: nor a dig that is REFUSED", p().cell(1, 0, 2), DUG);
    work("dig 0 1;", 1, 0);
    same("1.: by a dig all that are DUG", p().sums(1), 2);
    same("1.: the PROPPED one stays", p().cell(0, 0, 2), PROPPED);
    same("1.: FALLEN", p().cell(0, 1, 2), FALLEN);
    law(0, "512*512*512*16");
    work("dig 1 0;", 1, 0);
    same("1.: the least number is not above 0", p().cell(1, 0, 2), DUG);
    law(0, "512*512*512*16 - 1");
    kit.yes("1.: the greatest is", p().falls(1, 0));
  }

  private static void lawLater() {
    fresh("size 2 1;shaft 0;");
    work("dig 0 0;", 1, 0);
    p().image();
    law(0, "1");
    law(1, "7");
    p().undo();
    same("8: undo leaves the LAWS", p().harm(0, 0), 7);
    p().restore();
    same("37: restore leaves the LAWS", p().harm(0, 0), 7);
    kit.yes("37: of FALL, too", p().falls(0, 0));
    same("4: WORKS stay by a LAW", p().count(2), 1);
  }

  private static void digStates() {
    fresh("size 3 2;seam 0 0 3 2 1 1;shaft 0;crew 9;");
    work("dig 0 0;", 1, 0);
    refused("dig 0 0;");
    work("prop 0 0;", 1, 0);
    refused("dig 0 0;");
    law(0, "1");
    work("dig 1 0;", 1, 0);
    same("2.: FALLEN", p().cell(1, 0, 2), FALLEN);
    law(0, "0");
    work("dig 1 0;", 1, 0);
    same("2.: a FALLEN one is DUG", p().cell(1, 0, 2), DUG);
    work("dig 2 0;", 1, 0);
    same("2.: a WHOLE one is DUG", p().cell(2, 0, 2), DUG);
  }

  private static void digHand() {
    fresh("size 3 3;shaft 1;crew 9;");
    law(0, "0");
    refused("dig 0 0;");
    refused("dig 1 1;");
    work("dig 1 0;dig 1 1;", 2, 0);
    refused("dig 0 2;");
    same("34: left, right, left, right, below", p().sums(3), 5);
    work("dig 1 2;dig 0 2;dig 0 1;", 3, 0);
    same("34: above, to the left, to the right", p().sums(3), 4);
    work("dig 0 0;", 1, 0);
    fresh("size 3 3;shaft 1;crew 9;");
    law(0, "0");
    work("dig 1 0;prop 1 0;dig 1 1;", 3, 0);
    law(0, "1");
    work("dig 0 0;", 1, 0);
    same("2.: what FELL is OPEN no more", p().sums(2), 1);
    refused("dig 1 2;");
    same("2.: a PROPPED one has others at HAND", p().can(1, 1), 0);
    fresh("size 2 1;shaft 0;crew 9;");
    law(0, "1");
    work("dig 0 0;", 1, 0);
    same("2.: a shaft's CELL is at HAND still", p().can(0, 0), 0);
    refused("dig 1 0;");
  }

  private static void digCrew() {
    for (int crew = 1; crew <= 9; crew += 4) {
      fresh("size 8 6;shaft 0;crew " + crew + ";");
      law(0, "0");
      for (int x = 0; x < crew; x++) {
        same("15: the crew can", p().can(x % 8, x / 8), 0);
        work("dig " + x % 8 + " " + x / 8 + ";", 1, 0);
        same("9: digs left", p().told(4), crew - x - 1);
      }
      same("15: the crew is done", p().can(crew % 8, crew / 8), 4);
      refused("dig " + crew % 8 + " " + crew / 8 + ";");
      work("shift;", 1, 0);
      same("9: digs of a new SHIFT", p().told(4), crew);
      same("15: it can again", p().can(crew % 8, crew / 8), 0);
    }
    fresh("shaft 0;crew 1;");
    law(0, "1");
    work("dig 0 0;dig 0 0;", 1, 1);
    same("2.: what FELL was a dig", p().told(4), 0);
    fresh("shaft 0;");
    law(0, "0");
    work("dig 0 0;dig 1 0;dig 2 0;dig 3 0;dig 4 0;", 4, 1);
  }

  private static void digBars() {
    fresh("size 4 1;seam 0 0 1 1 1 9;seam 1 0 1 1 4 1;seam 2 0 1 1 2 3;shaft 0;crew 9;");
    law(0, "0");
    work("dig 0 0;dig 1 0;dig 2 0;dig 3 0;", 4, 0);
    int[] belt = {9, 3, 0, 1};
    for (int kind = 1; kind <= 4; kind++) {
      same("11: BARS come by their KIND", p().kind(kind, 1), belt[kind - 1]);
      same("11: none is in WHOLE CELLS", p().kind(kind, 0), 0);
    }
    same("34: BARS dug", p().sums(0), 13);
    same("10: BARS as told stay", p().cell(0, 0, 1), 9);
    law(0, "1");
    fresh("size 1 1;seam 0 0 1 1 1 9;shaft 0;");
    law(0, "1");
    work("dig 0 0;dig 0 0;dig 0 0;", 3, 0);
    same("2.: BARS come if it was WHOLE", p().sums(0), 9);
    same("11: none of a FALLEN one", p().kind(1, 0), 0);
    same("34: CELLS that fell, each time", p().sums(1), 3);
  }

  private static void digWater() {
    fresh("size 3 4;water 1 2;water 0 1;water 2 0;shaft 1;crew 9;store 9;");
    law(0, "0");
    same("9: dry is H", p().told(8), 4);
    work("dig 1 0;dig 1 1;dig 1 2;", 3, 0);
    same("9: its own row", p().told(8), 2);
    same("15: of its own row on", p().can(0, 2), 3);
    same("15: below", p().can(1, 3), 3);
    same("15: not above", p().can(2, 1), 0);
    refused("dig 0 2;");
    refused("dig 1 3;");
    refused("prop 1 2;");
    work("prop 1 1;", 1, 0);
    work("dig 0 1;", 1, 0);
    same("9: higher", p().told(8), 1);
    work("dig 2 0;", 1, 0);
    same("9: highest", p().told(8), 0);
    same("15: all is WET", p().can(0, 0), 3);
    refused("prop 1 0;");
    work("pump;dig 0 0;", 2, 0);
    same("9: dry again", p().told(8), 4);
    // Water that stays DUG makes no row WET once more.
    work("prop 1 0;prop 1 2;dig 1 3;", 3, 0);
    same("9: dry still", p().told(8), 4);
    fresh("size 1 3;water 0 0;water 0 1;shaft 0;crew 9;");
    law(0, "deep");
    work("dig 0 0;pump;dig 0 1;", 3, 0);
    same("2.: water that FALLS makes WET", p().told(8), 1);
    work("pump;dig 0 1;", 2, 0);
    same("2.: not when it was FALLEN", p().told(8), 3);
    law(0, "0");
    work("dig 0 1;dig 0 2;", 2, 0);
    same("2.: nor when it stays DUG", p().told(8), 3);
    fresh("size 2 2;water 0 1;water 1 0;shaft 0;crew 9;");
    law(0, "0");
    work("dig 0 0;dig 1 0;", 2, 0);
    same("9: the top row", p().told(8), 0);
    refused("dig 0 1;");
    same("9: no lower row dries a higher", p().told(8), 0);
  }

  private static void allAsTheyStood() {
    fresh("size 8 2;shaft 0;crew 9;");
    work("dig 0 0;dig 1 0;dig 2 0;", 3, 0);
    same("2.: all three at once", p().open(0), 0);
    law(0, "0");
    work("dig 0 0;dig 0 1;dig 1 1;", 3, 0);
    // Below an OPEN one a CELL falls: both go, though the upper one goes, too.
    law(0, "deep * open + (1 - deep)");
    work("dig 1 0;", 1, 0);
    same("2.: the upper two and the lower two", p().sums(1), 3 + 4);
    fresh("size 8 3;shaft 0;crew 9;");
    law(0, "0");
    work("dig 0 0;dig 0 1;dig 1 1;dig 2 1;", 4, 0);
    law(0, "wide - 2");
    work("dig 1 0;", 1, 0);
    same("2.: of all DUG CELLS, not of its row alone", p().sums(1), 3);
    same("2.: the others stand", p().open(0), 3);
  }

  private static void prop() {
    fresh("size 3 2;shaft 0;crew 9;store 2;");
    refused("prop 0 0;");
    refused("prop 2 1;");
    work("dig 0 0;dig 1 0;", 2, 0);
    work("prop 0 0;", 1, 0);
    same("9: PROPS in the store", p().told(5), 1);
    same("10: PROPPED", p().cell(0, 0, 2), PROPPED);
    refused("prop 0 0;");
    fresh("size 3 2;shaft 0;crew 9;store 2;");
    law(0, "1");
    work("dig 0 0;", 1, 0);
    same("10: FALLEN", p().cell(0, 0, 2), FALLEN);
    refused("prop 0 0;");
    law(0, "0");
    work("dig 0 0;dig 0 1;dig 1 0;prop 0 1;prop 0 0;", 5, 0);
    same("9: the last PROP", p().told(5), 0);
    refused("prop 1 0;");
    same("9: a PROP takes no dig", p().told(4), 5);
    fresh("shaft 0;store 0;");
    work("dig 0 0;", 1, 0);
    refused("prop 0 0;");
    fresh("shaft 0;crew 1;store 20;");
    work("dig 0 0;prop 0 0;", 2, 0);
    same("9: 20 PROPS less one", p().told(5), 19);
    same("9: the crew is not asked", p().told(4), 0);
    fresh("shaft 0;");
    same("9: 5 PROPS without", p().told(5), 5);
  }

  private static void pump() {
    fresh("size 2 2;water 0 0;shaft 0;shaft 1;crew 3;");
    refused("pump;");
    same("9: a REFUSED one takes no dig", p().told(4), 3);
    work("dig 0 0;pump;", 2, 0);
    same("9: it takes a dig", p().told(4), 1);
    same("9: dry", p().told(8), 2);
    refused("pump;");
    work("dig 1 0;", 1, 0);
    same("9: no dig is left", p().told(4), 0);
    fresh("size 2 2;water 0 0;shaft 0;crew 2;");
    work("dig 0 0;pump;", 2, 0);
    same("9: by the last dig", p().told(4), 0);
    same("15: then the crew is done", p().can(1, 0), 4);
    refused("dig 1 0;");
    fresh("size 2 2;water 0 0;shaft 0;crew 1;");
    work("dig 0 0;", 1, 0);
    refused("pump;");
    same("9: WET still", p().told(8), 0);
    work("shift;", 1, 0);
    same("9: a SHIFT dries nothing", p().told(8), 0);
    work("pump;", 1, 0);
    same("9: the next SHIFT", p().told(8), 2);
    same("34: it digs nothing", p().sums(2), 1);
  }

  private static void sell() {
    fresh("size 2 1;seam 0 0 1 1 2 5;seam 1 0 1 1 3 1;shaft 0;price 2 99;price 3 0;");
    refused("sell 2 1;");
    work("dig 0 0;dig 1 0;", 2, 0);
    refused("sell 2 6;");
    refused("sell 2 99;");
    refused("sell 1 1;");
    work("sell 2 2;", 1, 0);
    same("9: for P each", p().told(6), 198);
    same("11: left", p().kind(2, 1), 3);
    same("11: sold", p().kind(2, 2), 2);
    refused("sell 2 4;");
    work("sell 2 3;", 1, 0);
    same("11: all are sold", p().kind(2, 1), 0);
    same("9: pence", p().told(6), 495);
    refused("sell 2 1;");
    work("sell 3 1;", 1, 0);
    same("9: for nothing", p().told(6), 495);
    same("11: sold for nothing", p().kind(3, 2), 1);
    same("11: none went with ORDERS", p().kind(2, 3), 0);
    same("34: BARS dug stay", p().sums(0), 6);
    fresh("size 8 6;seam 0 0 8 6 1 9;shaft 0;crew 9;");
    law(0, "0");
    work("dig 0 0;again 2[dig 1 0;dig 2 0;dig 3 0;dig 4 0;dig 5 0;dig 6 0;dig 7 0;dig 0 1;shift;];dig 1 1;dig 2 1;", 13,
        8);
    same("11: 99 BARS", p().kind(1, 1), 99);
    work("sell 1 99;", 1, 0);
    same("9: 99 pence", p().told(6), 99);
  }

  private static void shift() {
    String pit = "size 1 1;seam 0 0 1 1 1 4;shaft 0;price 1 7;order 1 1 1 1 end;order 2 1 end;order 1 1 1 end;"
        + "order 1 1 end;order 3 2 end;order 60 1 end;";
    fresh(pit);
    work("dig 0 0;", 1, 0);
    same("14: of 4 none lacks for 3", p().lacks(0), 0);
    work("shift;", 1, 0);
    same("12: all its KINDS: DONE", p().order(0, 3), 1);
    same("12: of another SHIFT: open", p().order(1, 3), 0);
    same("12: one BAR is left for two: FAILED", p().order(2, 3), 2);
    same("12: one for one: DONE", p().order(3, 3), 1);
    same("9: prices of 3 and 1", p().told(6), 28);
    same("11: gone", p().kind(1, 3), 4);
    same("11: the BELT is empty", p().kind(1, 1), 0);
    same("11: none is sold", p().kind(1, 2), 0);
    same("9: SHIFT 2", p().told(3), 2);
    same("9: nothing is dug in it", p().told(4), 4);
    work("shift;", 1, 0);
    same("12: FAILED by an empty BELT", p().order(1, 3), 2);
    same("12: SHIFT 3's is open still", p().order(4, 3), 0);
    work("shift;", 1, 0);
    same("12: FAILED", p().order(4, 3), 2);
    same("9: a FAILED one pays nothing", p().told(6), 28);
    work("again 20[shift;shift;];again 16[shift;];", 56, 0);
    same("9: SHIFT 60", p().told(3), 60);
    same("12: of SHIFT 60 is open in it", p().order(5, 3), 0);
    work("shift;", 1, 0);
    same("12: and FAILED behind it", p().order(5, 3), 2);
    shiftByKinds();
    // A FAILED one takes none of its KINDS, though the BELT has some of them.
    fresh("size 2 1;seam 0 0 1 1 1 2;seam 1 0 1 1 2 1;shaft 0;order 1 2 1 1 2 end;");
    work("dig 0 0;dig 1 0;", 2, 0);
    same("14: lacks one", p().lacks(0), 1);
    work("shift;", 1, 0);
    same("12: FAILED", p().order(0, 3), 2);
    same("11: none is gone", p().kind(1, 3) + p().kind(2, 3), 0);
    same("11: all stay", p().kind(1, 1) * 10 + p().kind(2, 1), 21);
  }

  private static void shiftByKinds() {
    for (int kind = 1; kind <= 4; kind++) {
      fresh("size 1 1;seam 0 0 1 1 " + kind + " 2;shaft 0;price " + kind + " 9;order 1 " + kind + " end;order 2 " + kind
          + " " + kind + " end;");
      same("14: one is lacking of KIND " + kind, p().lacks(0), 1);
      same("14: two are lacking of KIND " + kind, p().lacks(1), 2);
      work("dig 0 0;", 1, 0);
      same("14: none is lacking", p().lacks(0) + p().lacks(1), 0);
      work("shift;", 1, 0);
      same("12: DONE", p().order(0, 3), 1);
      same("9: paid", p().told(6), 9);
      same("11: gone", p().kind(kind, 3), 1);
      same("11: left", p().kind(kind, 1), 1);
      same("14: one is lacking", p().lacks(1), 1);
      work("shift;", 1, 0);
      same("12: FAILED", p().order(1, 3), 2);
      same("11: left still", p().kind(kind, 1), 1);
    }
    // 8 KINDS, and an ORDER behind it that asks for another one.
    fresh("size 2 1;seam 0 0 1 1 2 9;seam 1 0 1 1 3 1;shaft 0;order 1 2 2 2 2 2 2 2 2 end;order 1 3 end;");
    work("dig 0 0;dig 1 0;", 2, 0);
    same("12: worth 8", p().order(0, 2), 8);
    same("14: none lacks", p().lacks(0) + p().lacks(1), 0);
    work("shift;", 1, 0);
    same("11: one of 9 is left", p().kind(2, 1), 1);
    same("11: none of 1 is left", p().kind(3, 1), 0);
    same("9: 9 pence", p().told(6), 9);
  }

  private static void lastShift() {
    fresh("size 2 2;seam 0 0 2 2 1 1;shaft 0;crew 1;");
    work("again 20[again 9[shift;];];", 179, 0);
    same("9: SHIFT 180", p().told(3), 180);
    work("again 19[shift;];", 19, 0);
    same("9: SHIFT 199", p().told(3), 199);
    work("dig 0 0;shift;", 2, 0);
    same("9: SHIFT 200", p().told(3), 200);
    same("9: a dig is left in it", p().told(4), 1);
    work("dig 1 0;", 1, 0);
    refused("shift;");
    same("9: SHIFT 200 still", p().told(3), 200);
    same("9: no new dig", p().told(4), 0);
    work("again 3[shift;];", 0, 3);
    same("32: a DECADE from 200 on has no new digs", p().decade(1, 0, 40, 0), 0);
    p().undo();
    p().undo();
    same("32: but those of this SHIFT", p().decade(1, 0, 40, 0), 1);
    p().undo();
    same("9: SHIFT 199", p().told(3), 199);
    same("32: of two SHIFTS", p().decade(1, 0, 40, 0), 2);
  }

  private static void begun() {
    fresh("");
    // 181 are begun by the agains in each other, 19 by the one behind: 200.
    work("again 20[again 8[pump;];];again 18[pump;];shift;", 0, 160 + 18);
    same("5: the 201st is left out", p().told(3), 1);
    work("again 20[again 8[pump;];];again 17[pump;];shift;shift;", 1, 160 + 17);
    same("5: the 200th is done", p().told(3), 2);
    work("again 20[again 8[pump;];];again 20[pump;];shift;", 0, 160 + 18);
    work("again 20[again 20[shift;];];shift;", 189, 0);
    same("5: done ones count, too", p().told(3), 191);
    // 1 and 20 times 10 are 201: the last one is left out.
    work("again 20[again 9[pump;];];", 0, 179);
    work("again 20[again 0[pump;];again 0[];];shift;", 1, 0);
    same("5: 42 of 200", p().told(3), 192);
    work("again 0[shift;];", 0, 0);
    same("5: none by 0", p().told(3), 192);
    work("again 1[];again 20[];", 0, 0);
    work("again 20[again 20[again 20[again 20[again 20[again 20[];];];];];];shift;", 0, 0);
    same("5: agains alone come to 200", p().told(3), 192);
    work("again 20[again 20[];];shift;", 1, 0);
    same("5: 22 of 200", p().told(3), 193);
    // Each time anew: the count of the WORK ahead is forgotten.
    work("shift;", 1, 0);
    work("again 2[again 3[shift;];];", 6, 0);
    same("5: 2 times 3", p().told(3), 200);
  }

  private static void sixteen() {
    fresh("shaft 0;");
    for (int i = 0; i < 16; i++) {
      same("39: WORKS", p().count(2), i);
      work("shift;", 1, 0);
    }
    kit.feed("shift;");
    kit.argument("5: the exception is ahead of -20", () -> p().work(21));
    kit.argument("5: the exception is ahead of -20", () -> p().work(-1));
    same("5: the TAPE stays", p().count(1), 20);
    same("4: this is no LAW", p().law(0, 6), -9);
    same("7: a FAULT ahead of it", p().fault(), 5);
    kit.feed("x");
    same("5: -20", p().work(1), -20);
    same("5: there is no FAULT", p().fault(), -1);
    same("5: the TAPE is empty", p().count(1), 0);
    same("5: nothing is done", p().told(3), 17);
    same("5: nothing is kept", p().count(2), 16);
    same("5: of no bytes", p().work(0), -20);
    same("38: -20 is no refusal", p().status(2), 2);
    same("8: undone", p().undo(), 15);
    same("5: a FAULT behind it", kit.work("x"), -9);
    work("shift;", 1, 0);
    same("39: 16 again", p().count(2), 16);
    same("36: an IMAGE of 16", p().image(), 1);
    for (int i = 15; i >= 0; i--) {
      same("8: how many are left", p().undo(), i);
      same("8: its SHIFT", p().told(3), i + 1);
    }
    same("8: there is none", p().undo(), -1);
    same("8: nothing is done", p().told(3), 1);
    same("37: the IMAGE", p().restore(), 0);
    same("37: 16 are there", kit.work("shift;"), -20);
    same("37: SHIFT 17", p().told(3), 17);
    same("3: a PIT forgets them", p().pit(0), 0);
    work("shift;", 1, 0);
  }

  private static void refusedByTheLatest() {
    fresh("shaft 0;");
    same("9: ahead of any", p().told(9), 0);
    work("pump;pump;shift;", 1, 2);
    same("9: behind a WORK with a FAULT", kit.work("pump;pump"), -9);
    same("9: it stays", p().told(9), 2);
    same("9: behind a LAW", kit.law(0, "0"), 1);
    same("9: behind a BOOK", kit.book(""), 0);
    same("9: behind an IMAGE", p().image(), 1);
    same("9: behind a PIT with a FAULT", kit.pit("x"), -9);
    same("9: it stays", p().told(9), 2);
    work("", 0, 0);
    work("pump;", 0, 1);
    p().undo();
    same("9: 0 behind undo()", p().told(9), 0);
    work("pump;", 0, 1);
    p().restore();
    same("9: 0 behind restore()", p().told(9), 0);
    work("pump;", 0, 1);
    same("9: without a FAULT", kit.pit(""), 0);
    same("9: 0 behind pit()", p().told(9), 0);
    for (int i = 0; i < 15; i++) {
      work("", 0, 0);
    }
    work("pump;pump;pump;", 0, 3);
    same("9: behind -20", kit.work("pump;"), -20);
    same("9: it stays", p().told(9), 3);
  }

  private static final String RICH = "size 4 3;seam 0 0 4 2 1 2;seam 1 1 2 1 2 5;water 0 2;shaft 1;crew 5;store 3;price 1 3;"
      + "order 1 1 end;order 2 2 2 2 2 2 2 end;";
  private static final String[] WORKS = {"dig 1 0;dig 1 1;prop 1 0;", "sell 2 2;shift;dig 0 1;", "dig 0 2;shift;pump;",
      "pump;pump;", "", "dig 2 1;dig 3 1;prop 0 0;", "again 3[shift;];dig 9 9"};

  private static void undone() {
    fresh(RICH);
    String[] before = new String[WORKS.length];
    int many = 0;
    for (int i = 0; i < WORKS.length - 1; i++) {
      before[i] = state();
      kit.yes("8: " + WORKS[i] + " is a WORK", kit.work(WORKS[i]) >= 0);
      many++;
      same("39: WORKS", p().count(2), many);
    }
    same("5: a WORK with a FAULT", kit.work(WORKS[WORKS.length - 1]), -8);
    same("39: is none to be undone", p().count(2), many);
    for (int i = WORKS.length - 2; i >= 0; i--) {
      same("8: how many are left", p().undo(), i);
      kit.yes("8: all is as ahead of " + WORKS[i], before[i].equals(state()));
    }
    same("8: there is none", p().undo(), -1);
    same("8: none, still", p().undo(), -1);
    same("38: -1 is no refusal", p().status(2), 0);
  }

  private static void imagesKeep() {
    fresh(RICH);
    same("37: there is none", p().restore(), -1);
    for (int i = 0; i < 3; i++) {
      kit.work(WORKS[i]);
    }
    kit.book("0 0;");
    same("36: one", p().image(), 1);
    String before = Snapshot.of(p()).replace(" counts 1", " counts 0");
    kit.work(WORKS[5]);
    p().undo();
    p().undo();
    p().undo();
    kit.work("shift;shift;");
    kit.work("shift;");
    kit.work("shift;");
    kit.work("shift;");
    same("39: other WORKS", p().count(2), 5);
    same("37: none is left", p().restore(), 0);
    kit.yes("37: all is as it was", before.equals(Snapshot.of(p())));
    same("37: WORKS that can be undone, too", p().undo(), 2);
    same("8: as ahead of the third", p().told(3), 2);
    same("37: undone", p().undo(), 1);
    same("37: undone", p().undo(), 0);
    same("8: as ahead of the first", p().sums(2), 0);
    // The BOOK is none of what WORK changes.
    p().image();
    kit.book("1 1;2 2;");
    p().restore();
    same("37: the BOOK stays", p().told(10), 2);
    // Nor is the TAPE, or the place of a FAULT.
    p().image();
    kit.work("digs");
    kit.feed("shift;");
    p().restore();
    same("37: the TAPE stays", p().count(1), 20);
    same("37: the FAULT stays", p().fault(), 0);
  }

  /** IMAGES whose WORKS are none of each other's: each keeps its own. */
  private static void otherPasts() {
    fresh("size 2 2;shaft 0;crew 9;");
    kit.work("dig 0 0;");
    kit.work("dig 0 1;");
    kit.work("dig 1 1;");
    p().image();
    p().undo();
    p().undo();
    p().undo();
    kit.work("shift;");
    kit.work("shift;");
    kit.work("shift;");
    p().image();
    p().undo();
    p().undo();
    p().undo();
    kit.work("shift;shift;dig 0 0;");
    kit.work("prop 0 0;");
    kit.work("prop 0 0;");
    kit.work("prop 0 0;");
    p().image();
    p().undo();
    same("37: the third", p().restore(), 2);
    same("39: its WORKS", p().count(2), 4);
    p().undo();
    p().undo();
    same("8: PROPPED still", p().cell(0, 0, 2), PROPPED);
    p().undo();
    same("8: DUG", p().cell(0, 0, 2), DUG);
    same("37: the second", p().restore(), 1);
    same("39: its WORKS", p().count(2), 3);
    p().undo();
    same("8: SHIFT 3", p().told(3), 3);
    p().undo();
    same("8: SHIFT 2", p().told(3) * 10 + p().sums(2), 20);
    same("37: the first", p().restore(), 0);
    p().undo();
    same("8: two DUG", p().told(3) * 10 + p().sums(2), 12);
    p().undo();
    same("8: one DUG", p().told(3) * 10 + p().sums(2), 11);
    same("8: none is left", p().undo(), 0);
    same("8: none DUG", p().told(3) * 10 + p().sums(2), 10);
  }

  private static void threeImages() {
    fresh("");
    for (int i = 1; i <= 3; i++) {
      same("36: how many there are", p().image(), i);
      kit.work("shift;");
    }
    same("36: there are 3", p().image(), -1);
    same("39: three", p().count(0), 3);
    same("38: -1 is no refusal", p().status(2), 0);
    same("9: SHIFT 4", p().told(3), 4);
    for (int i = 2; i >= 0; i--) {
      same("37: how many are left", p().restore(), i);
      same("39: IMAGES", p().count(0), i);
      same("37: the latest one", p().told(3), i + 1);
      same("37: its WORKS", p().count(2), i);
    }
    String before = Snapshot.of(p());
    same("37: there is none", p().restore(), -1);
    kit.yes("37: nothing is done", before.equals(Snapshot.of(p())));
    same("36: one again", p().image(), 1);
    same("3: a PIT with a FAULT leaves it", kit.pit("x"), -9);
    same("39: one", p().count(0), 1);
    same("3: a PIT without takes it", kit.pit(""), 0);
    same("37: there is none", p().restore(), -1);
    // An IMAGE that is gone leaves its place to the next.
    kit.work("shift;");
    p().image();
    p().image();
    p().restore();
    kit.work("shift;");
    same("36: two", p().image(), 2);
    kit.work("shift;");
    p().restore();
    same("37: of SHIFT 3", p().told(3), 3);
    p().restore();
    same("37: of SHIFT 2", p().told(3), 2);
  }
}
