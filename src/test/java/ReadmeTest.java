/** What README.md shows. */
public final class ReadmeTest {
  public static void main(String[] args) {
    Kit kit = new Kit();
    LullabyPit pit = new LullabyPit();
    kit.same("feed", pit.feed(0x73686166, 0x7420303b, 0x63726577, 0x20323b20, 0), 20);
    kit.same("pit", pit.pit(15), 0);
    kit.same("feed", pit.feed(0x64696720, 0x3020303b, 0, 0, 0), 20);
    kit.same("work", pit.work(8), 1);
    kit.same("cell", pit.cell(0, 0, 2), 1);

    kit.same("pit", kit.pit("size 4 3;seam 0 0 4 1 1 2;seam 1 1 2 1 2 5;shaft 1;crew 3;price 2 4;"), 18);
    kit.same("law", kit.law(0, "wide - 2 - props"), 1);
    kit.same("best", kit.pit.best(2, 0), 22);
    kit.same("work", kit.work("dig 1 0;dig 1 1;sell 2 5;shift;"), 4);
    kit.same("told", kit.pit.told(6), 20);
    kit.same("undo", kit.pit.undo(), 0);
    kit.end();
  }
}
