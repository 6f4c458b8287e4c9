/** Texts at their edges: each number, each "at most", each place where a text may end or goes wrong. */
public final class TextEdgeTest {
  private static final char PIT = 'p';
  private static final char LAW = 'l';
  private static final char WORK = 'w';
  private static final char BOOK = 'b';

  private static final Kit kit = new Kit();

  private static LullabyPit p() {
    return kit.pit;
  }

  private static int read(char kind, String text) {
    switch (kind) {
      case PIT: return kit.pit(text);
      case LAW: return kit.law(0, text);
      case WORK: return kit.work(text);
      default: return kit.book(text);
    }
  }

  private static void good(char kind, String text) {
    kit.yes("[" + text + "] has no FAULT", read(kind, text) >= 0);
    kit.same("[" + text + "] has no place of a FAULT", p().fault(), -1);
    kit.same("[" + text + "] empties the TAPE", p().count(1), 0);
  }

  private static void bad(char kind, String text, int fault, int place) {
    kit.same("the FAULT of [" + text + "]", read(kind, text), fault - 10);
    kit.same("the place in [" + text + "]", p().fault(), place);
    kit.same("[" + text + "] empties the TAPE", p().count(1), 0);
  }

  public static void main(String[] args) {
    pitNumbers();
    otherNumbers();
    manyDigits();
    words();
    blanks();
    endsTooEarly();
    manyClauses();
    manyShaftsAndOrders();
    manyOpen();
    sizeFirst();
    theLeastOfOnePlace();
    theFirstFromTheLeft();
    longestTexts();
    bytes();
    feeding();
    parts();
    whatAFaultLeaves();
    whatAPitBegins();
    kit.end();
  }

  /** A number stands between ahead and behind: from least to most it is good, one past either end a FAULT 2. */
  private static void range(char kind, String ahead, int least, int most, String behind) {
    kit.fresh();
    good(kind, ahead + least + behind);
    good(kind, ahead + most + behind);
    good(kind, ahead + "000" + most + behind);
    bad(kind, ahead + (most + 1) + behind, 2, ahead.length());
    bad(kind, ahead + (most + 100) + behind, 2, ahead.length());
    bad(kind, ahead + "99999999999999999999" + behind, 2, ahead.length());
    if (least > 0) {
      bad(kind, ahead + (least - 1) + behind, 2, ahead.length());
    }
    bad(kind, ahead + "-1" + behind, 1, ahead.length());
    bad(kind, ahead + "x" + behind, 1, ahead.length());
    if (!ahead.isEmpty()) {
      bad(kind, ahead, 1, ahead.length());
    }
  }

  private static void pitNumbers() {
    range(PIT, "size ", 1, 8, " 1;");
    range(PIT, "size 1 ", 1, 6, ";");
    range(PIT, "seam ", 0, 5, " 0 1 1 1 1;");
    range(PIT, "seam 0 ", 0, 3, " 1 1 1 1;");
    range(PIT, "seam 0 0 ", 1, 6, " 1 1 1;");
    range(PIT, "seam 2 0 ", 1, 4, " 1 1 1;");
    range(PIT, "seam 5 0 ", 1, 1, " 1 1 1;");
    range(PIT, "seam 0 0 1 ", 1, 4, " 1 1;");
    range(PIT, "seam 0 1 1 ", 1, 3, " 1 1;");
    range(PIT, "seam 0 3 1 ", 1, 1, " 1 1;");
    range(PIT, "seam 0 0 1 1 ", 1, 4, " 1;");
    range(PIT, "seam 0 0 1 1 1 ", 1, 9, ";");
    range(PIT, "water ", 0, 5, " 0;");
    range(PIT, "water 0 ", 0, 3, ";");
    range(PIT, "shaft ", 0, 5, ";");
    range(PIT, "crew ", 1, 9, ";");
    range(PIT, "store ", 0, 20, ";");
    range(PIT, "price ", 1, 4, " 1;");
    range(PIT, "price 1 ", 0, 99, ";");
    range(PIT, "order ", 1, 60, " 1 end;");
    range(PIT, "order 1 ", 1, 4, " end;");
    range(PIT, "order 1 1 1 1 1 1 1 1 ", 1, 4, " end;");
    String[] sizes = {"size 8 6;", "size 1 1;", "size 3 5;"};
    int[][] edges = {{8, 6}, {1, 1}, {3, 5}};
    for (int i = 0; i < sizes.length; i++) {
      range(PIT, sizes[i] + "seam ", 0, edges[i][0] - 1, " 0 1 1 1 1;");
      range(PIT, sizes[i] + "seam 0 ", 0, edges[i][1] - 1, " 1 1 1 1;");
      range(PIT, sizes[i] + "seam 0 0 ", 1, edges[i][0], " 1 1 1;");
      range(PIT, sizes[i] + "seam 0 0 1 ", 1, edges[i][1], " 1 1;");
      range(PIT, sizes[i] + "water ", 0, edges[i][0] - 1, " 0;");
      range(PIT, sizes[i] + "water 0 ", 0, edges[i][1] - 1, ";");
      range(PIT, sizes[i] + "shaft ", 0, edges[i][0] - 1, ";");
    }
  }

  private static void otherNumbers() {
    range(LAW, "", 0, 999, "");
    range(LAW, "wide - ", 0, 999, "");
    range(LAW, "least[1,", 0, 999, "]");
    range(WORK, "dig ", 0, 5, " 0;");
    range(WORK, "dig 0 ", 0, 3, ";");
    range(WORK, "prop ", 0, 5, " 0;");
    range(WORK, "prop 0 ", 0, 3, ";");
    range(WORK, "sell ", 1, 4, " 1;");
    range(WORK, "sell 1 ", 1, 99, ";");
    range(WORK, "again ", 0, 20, "[];");
    range(WORK, "again 0[dig ", 0, 5, " 0;];");
    range(BOOK, "", 0, 7, " 1;");
    range(BOOK, "7 ", 0, 6, ";");
    // The BOOK doesn't ask how wide or high the PIT is; WORK does.
    kit.fresh();
    kit.pit("size 2 5;");
    good(BOOK, "7 6;");
    good(WORK, "dig 1 4;");
    bad(WORK, "dig 2 0;", 2, 4);
    bad(WORK, "prop 1 5;", 2, 7);
    // By the PIT as it is, not as it was.
    kit.pit("size 8 1;");
    good(WORK, "dig 7 0;");
    bad(WORK, "dig 7 1;", 2, 6);
  }

  private static void manyDigits() {
    kit.fresh();
    good(PIT, "crew 00000000000000000000000000000000000000000000000007;");
    kit.same("digits, as many as stand there", p().told(4), 7);
    // 2 to the 32 and 4, 2 to the 64 and 4, 2 to the 31 and 4: none is a 4.
    bad(PIT, "crew 4294967300;", 2, 5);
    bad(PIT, "crew 18446744073709551620;", 2, 5);
    bad(PIT, "crew 2147483652;", 2, 5);
    bad(PIT, "crew 100000000000000000000000000000000000000000000000000004;", 2, 5);
    bad(PIT, "crew 1 0;", 1, 7);
    good(PIT, "price 4 0000099;");
    kit.same("99", p().kind(4, 4), 99);
    bad(BOOK, "00 01;000 1;", 2, 6);
  }

  private static void words() {
    String[] clauses = {"size 1 1", "seam 0 0 1 1 1 1", "water 0 0", "shaft 0", "crew 1", "store 1", "price 1 1",
        "order 1 1 end"};
    String[] steps = {"dig 0 0", "prop 0 0", "pump", "shift", "sell 1 1", "again 0[]"};
    for (String clause : clauses) {
      word(PIT, clause, ";");
    }
    for (String step : steps) {
      word(WORK, step, ";");
    }
    for (String unit : new String[] {"wide", "deep", "over", "open", "props", "bars", "kind", "shift", "least[1,2]",
        "most[1,2]"}) {
      word(LAW, unit, "");
    }
    kit.fresh();
    bad(PIT, "dig 0 0;", 1, 0);
    bad(PIT, "end;", 1, 0);
    bad(WORK, "crew 1;", 1, 0);
    bad(WORK, "order 1 1 end;", 1, 0);
    bad(LAW, "pump", 1, 0);
    bad(LAW, "crew", 1, 0);
    bad(BOOK, "x 1;", 1, 0);
    bad(PIT, "order 1 1 ende;", 1, 10);
    bad(PIT, "order 1 1 en;", 1, 10);
  }

  /** A word one letter longer, one letter shorter, or with a great letter is no such word. */
  private static void word(char kind, String text, String behind) {
    int length = 0;
    while (length < text.length() && text.charAt(length) >= 'a' && text.charAt(length) <= 'z') {
      length++;
    }
    String name = text.substring(0, length);
    String rest = text.substring(length) + behind;
    kit.fresh();
    good(kind, name + rest);
    good(kind, "  " + name + "  " + rest);
    bad(kind, name + "s" + rest, 1, 0);
    bad(kind, " a" + name + rest, 1, 1);
    bad(kind, name.substring(1) + rest, 1, 0);
    bad(kind, "   " + name.substring(0, length - 1) + rest, 1, 3);
    bad(kind, name.substring(0, 1).toUpperCase() + name.substring(1) + rest, 1, 0);
    for (int i = 0; i < length; i++) {
      bad(kind, name.substring(0, i) + "q" + name.substring(i + 1) + rest, 1, 0);
    }
    bad(kind, name.substring(0, length - 1) + " " + name.substring(length - 1) + rest, 1, 0);
  }

  private static void blanks() {
    kit.fresh();
    good(PIT, "");
    good(PIT, "    ");
    good(PIT, "  size  4   3  ;  shaft   1 ;crew9;order 1  2 3  end  ;  ");
    kit.same("crew9", p().told(4), 9);
    good(WORK, "");
    good(WORK, "   ");
    good(WORK, "  dig  1  0  ;  again  2  [  shift  ;  ]  ;  ");
    good(LAW, "  least  [  1  ,  ( wide  )  ]  +  2  *  3  ");
    good(BOOK, "");
    good(BOOK, "   ");
    good(BOOK, "  0  1  ;  1  2  ;  ");
    bad(LAW, "", 1, 0);
    bad(LAW, "   ", 1, 3);
    for (String other : new String[] {"\t", "\n", "\r", "\u0000", "\u00a0"}) {
      bad(PIT, "crew" + other + "4;", 1, 4);
      bad(PIT, "crew 4;" + other, 1, 7);
      bad(WORK, other + "pump;", 1, 0);
      bad(LAW, "1" + other, 1, 1);
      bad(BOOK, "0" + other + "1;", 1, 1);
    }
  }

  /** Cuts a good text at each length: the FAULT is at the length, or at the word that was cut. */
  private static void cut(char kind, String text) {
    for (int n = 0; n <= text.length(); n++) {
      kit.fresh();
      kit.pit("size 4 3;");
      String part = text.substring(0, n);
      boolean inWord = n > 0 && n < text.length() && isLetter(part.charAt(n - 1)) && isLetter(text.charAt(n));
      if (n == 0 || part.trim().isEmpty() || (part.trim().endsWith(";") && open(part) == 0)) {
        good(kind, part);
      } else if (inWord) {
        int from = n;
        while (from > 0 && isLetter(part.charAt(from - 1))) {
          from--;
        }
        bad(kind, part, 1, from);
      } else {
        bad(kind, part, 1, n);
      }
    }
  }

  private static int open(String part) {
    int open = 0;
    for (char c : part.toCharArray()) {
      open += c == '[' ? 1 : c == ']' ? -1 : 0;
    }
    return open;
  }

  private static boolean isLetter(char c) {
    return c >= 'a' && c <= 'z';
  }

  private static void endsTooEarly() {
    cut(PIT, " size 4 3 ; seam 1 2 3 1 4 5;water 0 0;shaft 1; crew 3;store 12 ;price 2 40;order 12 1 2  end ;  ");
    cut(WORK, " dig 1 0; prop 1  0 ;pump ;again 12 [ shift ; again 2[];sell 2 99; ] ;  ");
    cut(BOOK, " 0 1; 1 2 ;7 6;  ");
    kit.fresh();
    String[] laws = {"wide +", "wide *", "(", "(wide", "least", "least [", "most[ 1", "most[1 ,", "most[1,2", "1 - (2 /"};
    for (String law : laws) {
      bad(LAW, law, 1, law.length());
      bad(LAW, law + "  ", 1, law.length() + 2);
    }
  }

  private static void manyClauses() {
    String[] alike = {"seam 0 0 1 1 1 1;", "water 0 0;", "crew 1;", "store 1;", "price 1 1;"};
    for (String clause : alike) {
      int most = Math.min(60, 600 / clause.length());
      kit.fresh();
      good(PIT, clause.repeat(most));
    }
    kit.fresh();
    String sixty = "size 3 3;" + "crew 1;".repeat(58) + "crew 5;";
    good(PIT, sixty);
    kit.same("60 CLAUSES with size, the last counts", p().told(4), 5);
    good(PIT, sixty + "  ");
    for (String next : new String[] {"crew 1;", "size 1 1;", "shaft 0;", "order 1 1 end;", "crew", "seam 9 9 9 9 9 9;"}) {
      bad(PIT, sixty + next, 3, sixty.length());
      bad(PIT, sixty + "  " + next, 3, sixty.length() + 2);
    }
    kit.same("60 CLAUSES stay", p().told(4), 5);
  }

  private static void manyShaftsAndOrders() {
    kit.fresh();
    good(PIT, "shaft 0;shaft 1;shaft 2;shaft 3;");
    bad(PIT, "shaft 0;shaft 1;shaft 2;shaft 3;crew 1; shaft 4;", 3, 40);
    bad(PIT, "shaft 0;shaft 0;shaft 0;shaft 0;shaft 0;", 3, 32);
    bad(PIT, "shaft 0;shaft 0;shaft 0;shaft 0;shaft 9;", 3, 32);
    String six = "order 1 1 end;".repeat(6);
    good(PIT, six);
    kit.same("6 ORDERS", p().told(2), 6);
    bad(PIT, six + "crew 1; order 2 2 end;", 3, 92);
    bad(PIT, six + "order 99", 3, 84);
    kit.same("6 ORDERS stay", p().told(2), 6);
    good(PIT, "order 60 4 3 2 1 4 3 2 1 end;");
    kit.same("8 KINDS", p().order(0, 1), 8);
    kit.same("the eighth", p().note(0, 7), 1);
    bad(PIT, "order 60 4 3 2 1 4 3 2 1 4 end;", 3, 25);
    bad(PIT, "order 60 4 3 2 1 4 3 2 1   4 4 4 end;", 3, 27);
    bad(PIT, "order 60 4 3 2 1 4 3 2 1 4", 3, 25);
    bad(PIT, "order 60 end;", 1, 9);
    good(PIT, "order 60 4 end;");
    kit.same("one KIND", p().order(0, 1), 1);
  }

  private static void manyOpen() {
    String[] opening = {"(", "least[", "most["};
    String[] closing = {")", ",1]", ",1]"};
    for (int i = 0; i < 3; i++) {
      for (int j = 0; j < 3; j++) {
        kit.fresh();
        String six = (opening[i] + opening[j]).repeat(3);
        String end = (closing[j] + closing[i]).repeat(3);
        good(LAW, six + "1" + end);
        good(LAW, six + "1" + end + "+" + six + "2" + end);
        for (String seventh : opening) {
          bad(LAW, six + " " + seventh + "1", 3, six.length() + 1);
          bad(LAW, six + "1+" + seventh, 3, six.length() + 2);
        }
        bad(LAW, six + "leasts[1,2]", 1, six.length());
        bad(LAW, six + "least", 3, six.length());
        bad(LAW, six, 1, six.length());
      }
    }
    // In the second half of a pair the pair is open still, behind its bracket it is not.
    good(LAW, "least[1,least[1,least[1,least[1,least[1,least[1,2]]]]]]");
    bad(LAW, "least[1,least[1,least[1,least[1,least[1,least[1,most[1,2]]]]]]]", 3, 48);
    good(LAW, "least[(((((1))))),(((((2)))))]");
    good(LAW, "(((((1)+(1))+(1))+(1))+(1))");
    kit.fresh();
    String six = "again 1[".repeat(6);
    String end = "];".repeat(6);
    good(WORK, six + "shift;" + end);
    good(WORK, "again 1[again 1[again 1[again 1[again 1[again 1[];again 1[];];];];];];again 1[];");
    bad(WORK, six + "  again 1[];" + end, 3, 50);
    bad(WORK, six + "pump; again", 3, 54);
    bad(WORK, six + "agains", 1, 48);
    bad(WORK, "again 0[".repeat(6) + "again 0[];" + end, 3, 48);
  }

  private static void sizeFirst() {
    kit.fresh();
    good(PIT, "size 1 1;");
    good(PIT, "   size 8 6;");
    bad(PIT, "crew 1;size 8 6;", 4, 7);
    bad(PIT, "size 8 6;size 8 6;", 4, 9);
    bad(PIT, "size 8 6;crew 1;  size 8 6;", 4, 18);
    bad(PIT, "crew 1;size", 4, 7);
    bad(PIT, "crew 1;sizes 1 1;", 1, 7);
    kit.same("8 wide stays", p().told(0), 8);
    kit.same("6 high stays", p().told(1), 6);
  }

  private static void theLeastOfOnePlace() {
    kit.fresh();
    String sixty = "crew 1;".repeat(60);
    bad(PIT, sixty + "size 1 1;", 3, 420);
    bad(PIT, sixty + "sizes 1 1;", 1, 420);
    bad(PIT, sixty + ";", 1, 420);
    bad(PIT, sixty + "x", 1, 420);
    bad(PIT, "order 1 1 1 1 1 1 1 1 1 5 end;", 2, 24);
    bad(PIT, "order 1 1 1 1 1 1 1 1 1 0 end;", 2, 24);
    bad(PIT, "order 1 1 1 1 1 1 1 1 1 ;", 1, 24);
    String eight = "7 0;6 0;5 0;4 0;3 0;2 0;1 0;0 0;";
    good(BOOK, eight);
    kit.same("8 lines", p().told(10), 8);
    for (int x = 0; x <= 8; x++) {
      bad(BOOK, eight + x + " 0;", 2, 32);
    }
    bad(BOOK, eight + "x", 1, 32);
    bad(BOOK, eight + ";", 1, 32);
  }

  private static void theFirstFromTheLeft() {
    kit.fresh();
    bad(PIT, "crew 99;x", 2, 5);
    bad(PIT, "x;crew 99;", 1, 0);
    bad(PIT, "size 9 9;", 2, 5);
    bad(PIT, "seam 6 4 9 9 9 99;", 2, 5);
    bad(PIT, "seam 5 4 9 9 9 99;", 2, 7);
    bad(PIT, "seam 5 3 2 9 9 99;", 2, 9);
    bad(PIT, "seam 5 3 1 2 9 99;", 2, 11);
    bad(PIT, "seam 5 3 1 1 9 99;", 2, 13);
    bad(PIT, "seam 5 3 1 1 4 99;", 2, 15);
    bad(PIT, "shaft 0;shaft 0;shaft 0;shaft 0;crew 0;shaft 0;", 2, 37);
    bad(WORK, "dig 6 9;digs", 2, 4);
    bad(WORK, "dig 5 9;digs", 2, 6);
    bad(LAW, "1000 +", 2, 0);
    bad(LAW, "((((((1000 + (", 2, 6);
    bad(BOOK, "0 7;0 7;", 2, 2);
    bad(BOOK, "0 0;0 7;", 2, 4);
  }

  private static void longestTexts() {
    kit.fresh();
    good(PIT, "crew 9;" + " ".repeat(593));
    good(PIT, " ".repeat(593) + "crew 8;");
    kit.same("600 bytes are read", p().told(4), 8);
    bad(PIT, " ".repeat(594) + "crew 7", 1, 600);
    good(LAW, " ".repeat(149) + "1");
    bad(LAW, " ".repeat(149) + "(", 1, 150);
    good(WORK, " ".repeat(144) + "shift;");
    kit.same("150 bytes are read", p().told(3), 2);
    bad(WORK, " ".repeat(145) + "shift", 1, 150);
    good(BOOK, " ".repeat(96) + "3 3;");
    kit.same("100 bytes are read", p().told(10), 1);
    bad(BOOK, " ".repeat(99) + "3", 1, 100);
    good(WORK, "pump;".repeat(30));
    kit.same("30 STEPS are begun", p().told(9), 30);
    good(LAW, "1+".repeat(74) + "10");
    good(LAW, "(1)+".repeat(37) + "10");
    kit.yes("a long LAW is done whole", kit.law(1, "1+".repeat(74) + "9") == 1 && p().harm(0, 0) == 83);
  }

  /** All 256 bytes: what is no letter, digit, blank or sign of a text can't stand anywhere. */
  private static void bytes() {
    for (int b = 0; b < 256; b++) {
      char c = (char) b;
      boolean known = c == ' ' || c == ';' || (c >= '0' && c <= '9');
      kit.fresh();
      if (!known) {
        bad(PIT, "crew 3" + c + ";", 1, 6);
        bad(BOOK, "1 3" + c + ";", 1, 3);
      }
      if (c != ' ') {
        bad(PIT, "crew 3;" + c, 1, 7);
      }
      if (!known && "+-*/".indexOf(c) < 0) {
        bad(LAW, "wide" + " " + c, 1, 5);
      }
      if (c != ' ' && c != ']') {
        bad(WORK, "again 2[pump;" + c, 1, 13);
      }
    }
  }

  private static void feeding() {
    kit.fresh();
    kit.same("2: of each number the highest first", p().feed(0x63726577, 0x20303037, 0x3b73746f, 0x72652031, 0x393b2020),
        20);
    kit.same("2: all 20 bytes", p().pit(20), 0);
    kit.same("2: crew 007", p().told(4), 7);
    kit.same("2: store 19", p().told(5), 19);
    kit.feed("crew 6;" + " ".repeat(573));
    kit.same("2: 580 are there", p().count(1), 580);
    kit.same("2: 600 are not too many", p().feed(0x73746f72, 0x65203138, 0x3b202020, 0x20202020, 0x20202020), 600);
    for (int i = 0; i < 3; i++) {
      kit.same("2: more are too many", p().feed(-1, -1, -1, -1, -1), -1);
      kit.same("2: nothing is done", p().count(1), 600);
    }
    kit.same("2: no FAULT by it", p().fault(), -1);
    kit.same("2: what was fed stays", p().pit(600), 0);
    kit.same("2: crew 6", p().told(4), 6);
    kit.same("2: store 18", p().told(5), 18);
    kit.same("2: empty then, from 20 on", p().feed(0, 0, 0, 0, 0), 20);
    kit.same("2: and 40", p().feed(0, 0, 0, 0, 0), 40);
  }

  /** The first n bytes are read, and the TAPE is empty then, with a FAULT too; by an exception it stays. */
  private static void parts() {
    kit.fresh();
    kit.feed("crew 7;crew 8;crew 9;");
    kit.same("3: the first 14", p().pit(14), 0);
    kit.same("3: crew 8", p().told(4), 8);
    kit.same("3: the rest is gone", p().count(1), 0);
    kit.feed("crew 7;crew 8;crew 9;");
    kit.same("3: the first 13", p().pit(13), -9);
    kit.same("3: at the length", p().fault(), 13);
    kit.same("3: all is gone", p().count(1), 0);
    kit.same("3: none of an empty TAPE", p().pit(0), 0);
    kit.same("3: crew without", p().told(4), 4);
    kit.feed("shift;shift;shift;");
    kit.same("5: the first 6", p().work(6), 1);
    kit.same("5: the rest is gone", p().count(1), 0);
    kit.feed("0 1;1 1;2 1;");
    kit.same("6: the first 8", p().book(8), 2);
    kit.same("6: the rest is gone", p().count(1), 0);
    kit.feed("99 - kind");
    kit.same("4: the first 2", p().law(1, 2), 1);
    kit.same("4: 99", p().harm(0, 0), 99);
    kit.same("4: the rest is gone", p().count(1), 0);
    cutInside();
    kit.feed("crew 7;");
    kit.argument("3: 21 of 20", () -> p().pit(21));
    kit.same("3: it stays", p().count(1), 20);
    kit.same("3: and can be read", p().pit(7), 0);
    kit.same("3: crew 7", p().told(4), 7);
    kit.argument("3: 1 of none", () -> p().pit(1));
    kit.argument("4: 1 of none", () -> p().law(0, 1));
    kit.argument("5: 1 of none", () -> p().work(1));
    kit.argument("6: 1 of none", () -> p().book(1));
  }

  /** What stands on the TAPE behind the first n bytes is no part of the text. */
  private static void cutInside() {
    kit.feed("crew 4;store 11;");
    kit.same("3: the end inside of a number", p().pit(14), -9);
    kit.same("3: at the length", p().fault(), 14);
    kit.feed("crew 40;");
    kit.same("3: 4, not 40", p().pit(6), -9);
    kit.same("3: at the length", p().fault(), 6);
    kit.feed("pumps;");
    kit.same("5: pump, not pumps", p().work(4), -9);
    kit.same("5: at the length", p().fault(), 4);
    kit.feed("pump;");
    kit.same("5: pum", p().work(3), -9);
    kit.same("5: at the word", p().fault(), 0);
    kit.feed("wide");
    kit.same("4: wid", p().law(0, 3), -9);
    kit.same("4: at the word", p().fault(), 0);
    kit.feed("kinds");
    kit.same("4: kind", p().law(1, 4), 1);
    kit.feed("12");
    kit.same("4: 1", p().law(1, 1), 1);
    kit.same("4: 1, not 12", p().harm(0, 0), 1);
    kit.feed("1  + 2");
    kit.same("4: 1 and a blank", p().law(1, 2), 1);
    kit.feed("1 1;2");
    kit.same("6: one line", p().book(4), 1);
    kit.feed("1 12;");
    kit.same("6: 1 1", p().book(3), -9);
    kit.same("6: at the length", p().fault(), 3);
  }

  private static void changeAll() {
    kit.fresh();
    kit.pit("size 3 2;seam 0 0 3 1 2 3;water 2 1;shaft 0;crew 2;store 3;price 2 5;order 1 2 end;order 8 2 end;");
    kit.law(0, "wide - 3");
    kit.law(1, "17");
    kit.book("1 1;");
    kit.work("dig 0 0;dig 1 0;dig 2 0;shift;");
    kit.work("prop 0 0;dig 2 0;sell 2 2;dig 2 1;pump;");
    p().image();
  }

  private static void whatAFaultLeaves() {
    char[] kinds = {PIT, LAW, WORK, BOOK};
    String[] texts = {"crew 9;crew 10;", "wide - 1 -", "shift;pump;dig 9 0;", "0 0;2 2;0 0;"};
    int[] places = {12, 10, 15, 8};
    int[] faults = {2, 1, 2, 2};
    for (int i = 0; i < kinds.length; i++) {
      changeAll();
      kit.same("3: the WORKS of this test are right", p().told(9), 1);
      String before = Snapshot.of(p());
      bad(kinds[i], texts[i], faults[i], places[i]);
      String after = Snapshot.of(p()).replace("fault " + places[i], "fault -1");
      kit.yes("3 to 6: by a FAULT all but the TAPE stays: " + texts[i], before.equals(after));
      kit.same("3: IMAGES stay", p().restore(), 0);
      kit.same("8: WORKS can be undone", p().undo(), 1);
    }
  }

  /** A PIT without a FAULT begins all anew, but the refusals that were counted. */
  private static void whatAPitBegins() {
    String same = "size 3 2;seam 0 0 3 1 2 3;water 2 1;shaft 0;crew 2;store 3;price 2 5;order 1 2 end;order 8 2 end;";
    LullabyPit other = new LullabyPit();
    other.pit(Kit.feed(other, same));
    changeAll();
    kit.argument("38: one is refused", () -> p().told(11));
    kit.same("3: BARS", kit.pit(same), 9);
    kit.yes("3: all is as on a new object", Snapshot.of(other).equals(Snapshot.of(p())));
    kit.same("3: no CELL is at HAND but the shaft's", p().sums(3), 1);
    kit.same("3: no LAW of FALL", kit.work("dig 0 0;dig 1 0;shift;dig 2 0;"), 4);
    kit.same("3: three wide fall", p().sums(1), 3);
    kit.same("3: no LAW of HARM", p().told(7), 3 * 3 * 2);
    kit.same("3: no IMAGES", p().restore(), -1);
    kit.same("38: refusals stay", p().status(2), 1);
    kit.same("3: all is WHOLE again", kit.pit(same), 9);
    kit.yes("3: what FELL, too", Snapshot.of(other).equals(Snapshot.of(p())));
    // The empty text is a PIT, too.
    changeAll();
    kit.same("3: no BARS", p().pit(0), 0);
    kit.yes("3: as a new object", Snapshot.of(new LullabyPit()).equals(Snapshot.of(p())));
    shorterPit();
  }

  /** Nothing of the PIT ahead, nor of one with a FAULT, is in the next one. */
  private static void shorterPit() {
    String rich = "size 8 6;seam 0 0 8 6 4 9;shaft 0;shaft 7;crew 9;store 20;price 4 50;"
        + "order 1 4 4 4 4 4 4 4 4 end;order 1 3 3 3 end;";
    String next = "size 8 6;shaft 1;order 5 1 2 end;";
    LullabyPit other = new LullabyPit();
    other.pit(Kit.feed(other, next));
    kit.fresh();
    kit.pit(rich);
    kit.same("3: no BARS", kit.pit(next), 0);
    kit.same("12: two KINDS", p().order(0, 1), 2);
    kit.same("12: worth 2", p().order(0, 2), 2);
    kit.same("14: two are lacking", p().lacks(0), 2);
    kit.same("9: one ORDER", p().told(2), 1);
    kit.same("15: no shaft of the PIT ahead", p().can(0, 0) * 10 + p().can(7, 0), 22);
    kit.same("34: one at HAND", p().sums(3), 1);
    kit.fresh();
    kit.same("3: a FAULT at the end", kit.pit(rich + "x"), -9);
    kit.same("3: no BARS", kit.pit(next), 0);
    kit.yes("3: nothing of a PIT with a FAULT", snapshotOfTop(other).equals(snapshotOfTop(p())));
  }

  private static String snapshotOfTop(LullabyPit pit) {
    StringBuilder s = new StringBuilder();
    for (int what = 0; what <= 10; what++) {
      s.append(pit.told(what)).append(' ');
    }
    for (int x = 0; x < 8; x++) {
      s.append(pit.cell(x, 0, 0)).append(pit.cell(x, 5, 1)).append(pit.can(x, 0)).append(' ');
    }
    return s.append(pit.lacks(0)).append(pit.order(0, 2)).append(pit.kind(4, 4)).toString();
  }
}
