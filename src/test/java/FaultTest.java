/** The FAULTS of all texts: which, and where. */
public final class FaultTest {
  private static final Kit kit = new Kit();

  private static void check(String text, int got, int kind, int place) {
    kit.same("the fault of [" + text + "]", got, kind - 10);
    kit.same("the place in [" + text + "]", kit.pit.fault(), place);
  }

  private static void pit(String text, int kind, int place) {
    check(text, kit.pit(text), kind, place);
  }

  private static void law(String text, int kind, int place) {
    check(text, kit.law(0, text), kind, place);
    check(text, kit.law(1, text), kind, place);
  }

  private static void work(String text, int kind, int place) {
    check(text, kit.work(text), kind, place);
  }

  private static void book(String text, int kind, int place) {
    check(text, kit.book(text), kind, place);
  }

  private static void good(String text) {
    kit.yes("[" + text + "] is a PIT", kit.pit(text) >= 0);
    kit.same("no fault in [" + text + "]", kit.pit.fault(), -1);
  }

  public static void main(String[] args) {
    clauses();
    numbers();
    tooMany();
    laws();
    works();
    books();
    kit.end();
  }

  private static void clauses() {
    kit.fresh();
    pit(";", 1, 0);
    pit("  ;", 1, 2);
    pit("crew", 1, 4);
    pit("crew   ", 1, 7);
    pit("crew 4", 1, 6);
    pit("crew 4  ", 1, 8);
    pit("crew 4 5;", 1, 7);
    pit("crew;", 1, 4);
    pit("crew -1;", 1, 5);
    pit("Crew 4;", 1, 0);
    pit("crews 4;", 1, 0);
    pit("crew4x;", 1, 5);
    pit("cre", 1, 0);
    pit("4;", 1, 0);
    pit("crew 4;;", 1, 7);
    pit("crew 4;x", 1, 7);
    pit("crew 4;\u00e9", 1, 7);
    pit("crew 4;\u0000", 1, 7);
    pit("crew\t4;", 1, 4);
    pit("seam 0 0 1 1 1;", 1, 14);
    pit("order 1 1 ends;", 1, 10);
    pit("order 1 1;", 1, 9);
    pit("order 1;", 1, 7);
    pit("order 1 1", 1, 9);
    pit("order 1 1 end", 1, 13);
    pit("order 1 1 end 1;", 1, 14);
    pit("end;", 1, 0);
    pit("size 3 3;size 3 3;", 4, 9);
    pit("crew 1; size 3 3;", 4, 8);
    pit("crew 1;size", 4, 7);
    good("");
    good("   ");
    good(" crew 4 ; ");
    good("size8 6;order60 1 1 1 1 1 1 1 1end;seam 7 5 1 1 4 9;");
    good("crew 0000000000000000000000000004;");
  }

  private static void numbers() {
    kit.fresh();
    pit("size 0 1;", 2, 5);
    pit("size 9 1;", 2, 5);
    pit("size 1 0;", 2, 7);
    pit("size 1 7;", 2, 7);
    pit("size 4294967297 1;", 2, 5);
    pit("size 18446744073709551617 1;", 2, 5);
    pit("size 3 3;seam 3 0 1 1 1 1;", 2, 14);
    pit("size 3 3;seam 0 3 1 1 1 1;", 2, 16);
    pit("size 3 3;seam 0 0 0 1 1 1;", 2, 18);
    pit("size 3 3;seam 1 0 3 1 1 1;", 2, 18);
    pit("size 3 3;seam 0 1 3 3 1 1;", 2, 20);
    pit("size 3 3;seam 0 1 3 0 1 1;", 2, 20);
    pit("seam 0 0 1 1 0 1;", 2, 13);
    pit("seam 0 0 1 1 5 1;", 2, 13);
    pit("seam 0 0 1 1 1 10;", 2, 15);
    pit("water 6 0;", 2, 6);
    pit("water 0 4;", 2, 8);
    pit("shaft 6;", 2, 6);
    pit("crew 0;", 2, 5);
    pit("crew 10;", 2, 5);
    pit("store 21;", 2, 6);
    good("store 0;store 20;crew 1;crew 9;price 4 0;price 4 99;");
    pit("price 5 1;", 2, 6);
    pit("price 1 100;", 2, 8);
    pit("order 61 1 end;", 2, 6);
    pit("order 0 1 end;", 2, 6);
    pit("order 1 0 end;", 2, 8);
    pit("order 1 1 5 end;", 2, 10);
    pit("crew 10", 2, 5);
  }

  private static void tooMany() {
    kit.fresh();
    String sixty = "crew 1;".repeat(60);
    good(sixty);
    pit(sixty + "crew 1;", 3, 420);
    pit(sixty + "crew 0;", 3, 420);
    pit(sixty + " size 1 1;", 3, 421);
    pit(sixty + "crews 1;", 1, 420);
    pit(sixty + ";", 1, 420);
    good("shaft 0;".repeat(4));
    pit("shaft 0;".repeat(4) + " shaft", 3, 33);
    pit("shaft 0;".repeat(4) + " shafts", 1, 33);
    String orders = "order 1 1 end;".repeat(6);
    good(orders);
    pit(orders + "order", 3, 84);
    good("order 1 1 1 1 1 1 1 1 1 end;");
    pit("order 1 1 1 1 1 1 1 1 1 4 end;", 3, 24);
    pit("order 1 1 1 1 1 1 1 1 1 5 end;", 2, 24);
    pit("order 1 1 1 1 1 1 1 1 1 x;", 1, 24);
  }

  private static void laws() {
    kit.fresh();
    law("", 1, 0);
    law("  ", 1, 2);
    law("wide -", 1, 6);
    law("- 1", 1, 0);
    law("1 1", 1, 2);
    law("wide wide", 1, 5);
    law("1000", 2, 0);
    law("1 + 99999999999", 2, 4);
    law("1)", 1, 1);
    law("(1", 1, 2);
    law("()", 1, 1);
    law("least", 1, 5);
    law("least(1,2)", 1, 5);
    law("least[1]", 1, 7);
    law("least[1,2", 1, 9);
    law("least[1,2)", 1, 9);
    law("least[1,2,3]", 1, 9);
    law("leasts[1,2]", 1, 0);
    law("1 % 2", 1, 2);
    law("1;", 1, 1);
    law("wide2", 1, 4);
    law("2wide", 1, 1);
    law("((((((1))))))1", 1, 13);
    law("(((((( (1", 3, 7);
    law("((((((least[1,2]", 3, 6);
    law("((((((most[1,2]", 3, 6);
    law("((((((mosts", 1, 6);
    law("least[1,least[1,least[1,least[1,least[1,least[1,(1)]]]]]]", 3, 48);
    kit.same("closed ones are not open", kit.law(0, "((((((1)))))) + ((((((2))))))"), 1);
    kit.same("six of them", kit.law(0, "least[(((((1))))),most[((((2)))),3]]"), 1);
  }

  private static void works() {
    kit.fresh();
    kit.pit("size 4 3;");
    work(";", 1, 0);
    work("dig 0 0", 1, 7);
    work("dig 4 0;", 2, 4);
    work("dig 0 3;", 2, 6);
    work("prop 4 0;", 2, 5);
    work("prop 0 3;", 2, 7);
    work("dig 0;", 1, 5);
    work("pump 1;", 1, 5);
    work("shift", 1, 5);
    work("sell 5 1;", 2, 5);
    work("sell 0 1;", 2, 5);
    work("sell 1 0;", 2, 7);
    work("sell 1 100;", 2, 7);
    work("again 21[];", 2, 6);
    work("again 2;", 1, 7);
    work("again 2[;];", 1, 8);
    work("again 2[shift];", 1, 13);
    work("again 2[shift;]", 1, 15);
    work("again 2[shift;", 1, 14);
    work("again 2[shift;  ", 1, 16);
    work("again 2[];]", 1, 10);
    work("again [];", 1, 6);
    work("]", 1, 0);
    work("shift;digs 0 0;", 1, 6);
    work("wide", 1, 0);
    String six = "again 1[".repeat(6);
    work(six + " again", 3, 49);
    work(six + "agains", 1, 48);
    work(six, 1, 48);
    kit.same("six of them", kit.work(six + "shift;" + "];".repeat(6)), 1);
    kit.same("none left a WORK but that one", kit.pit.count(2), 1);
    kit.same("30 STEPS", kit.work("pump;".repeat(30)), 0);
    kit.same("30 STEPS", kit.pit.told(9), 30);
  }

  private static void books() {
    kit.fresh();
    book("0", 1, 1);
    book("0 1", 1, 3);
    book("0 1 1;", 1, 4);
    book("x 1;", 1, 0);
    book("0 x;", 1, 2);
    book(";", 1, 0);
    book("8 0;", 2, 0);
    book("0 7;", 2, 2);
    book("3 1; 3 9;", 2, 5);
    String eight = "0 0;1 1;2 2;3 3;4 4;5 5;6 6;7 0;";
    book(eight + "0 0;", 2, 32);
    book(eight + "8 0;", 2, 32);
    book(eight + ";", 1, 32);
    kit.same("8 lines", kit.book(eight), 8);
    kit.same("no blanks needed but between numbers", kit.book("  0  6 ;7 0;"), 2);
  }
}
