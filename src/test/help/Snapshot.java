/** All that a pit tells of itself without being changed, as one text; some 150 calls for a pit of 4 by 3. */
final class Snapshot {
  private Snapshot() {
  }

  static String of(LullabyPit p) {
    StringBuilder s = new StringBuilder();
    for (int what = 0; what <= 10; what++) {
      s.append(p.told(what)).append(' ');
    }
    s.append("fault ").append(p.fault()).append(" counts");
    for (int what = 0; what <= 2; what++) {
      s.append(' ').append(p.count(what));
    }
    for (int y = 0; y < p.told(1); y++) {
      s.append("\nrow ").append(y).append(' ').append(p.open(y));
      for (int x = 0; x < p.told(0); x++) {
        s.append("  ").append(p.cell(x, y, 0)).append(p.cell(x, y, 1)).append(p.cell(x, y, 2));
        s.append(' ').append(p.harm(x, y)).append(p.falls(x, y) ? "!" : "").append(p.can(x, y));
      }
    }
    for (int kind = 1; kind <= 4; kind++) {
      s.append("\nkind ").append(kind);
      for (int what = 0; what <= 4; what++) {
        s.append(' ').append(p.kind(kind, what));
      }
    }
    for (int order = 0; order < p.told(2); order++) {
      s.append("\norder ").append(order).append(' ').append(p.order(order, 0));
      s.append(' ').append(p.order(order, 2)).append(' ').append(p.order(order, 3));
    }
    return s.append("\nsums ").append(p.sums(0)).append(' ').append(p.sums(1)).append(" fits ").append(p.fits())
        .toString();
  }
}
