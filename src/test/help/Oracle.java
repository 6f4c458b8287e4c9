import java.util.ArrayList;
import java.util.HashMap;
import java.util.List;
import java.util.Map;
import java.util.NoSuchElementException;

/**
 * The document told a second time, in the slowest and plainest way: tokens first, trees for texts, copies of
 * whole mines, every set and every way tried. It shares nothing with LullabyPit.
 */
final class Oracle {
  static final class Fault extends RuntimeException {
    final int kind;
    final int place;

    Fault(int kind, int place) {
      this.kind = kind;
      this.place = place;
    }
  }

  static final class Token {
    final String text;
    final int place;

    Token(String text, int place) {
      this.text = text;
      this.place = place;
    }

    boolean isNumber() {
      return !text.isEmpty() && Character.isDigit(text.charAt(0));
    }
  }

  /** Tokens of a text, and one without text at its length. */
  static final class Tokens {
    final List<Token> all = new ArrayList<>();
    int at = 0;

    Tokens(String text) {
      int i = 0;
      while (i < text.length()) {
        char c = text.charAt(i);
        int from = i;
        i++;
        if (c == ' ') {
          continue;
        }
        if (c >= '0' && c <= '9') {
          while (i < text.length() && text.charAt(i) >= '0' && text.charAt(i) <= '9') {
            i++;
          }
        } else if (c >= 'a' && c <= 'z') {
          while (i < text.length() && text.charAt(i) >= 'a' && text.charAt(i) <= 'z') {
            i++;
          }
        }
        all.add(new Token(text.substring(from, i), from));
      }
      all.add(new Token("", text.length()));
    }

    Token peek() {
      return all.get(at);
    }

    boolean ended() {
      return at == all.size() - 1;
    }

    Token take() {
      Token t = all.get(at);
      if (!ended()) {
        at++;
      }
      return t;
    }

    void want(String sign) {
      Token t = take();
      if (!t.text.equals(sign)) {
        throw new Fault(1, t.place);
      }
    }

    int number(int least, int most) {
      Token t = take();
      if (!t.isNumber()) {
        throw new Fault(1, t.place);
      }
      java.math.BigInteger v = new java.math.BigInteger(t.text);
      if (v.compareTo(java.math.BigInteger.valueOf(least)) < 0
          || v.compareTo(java.math.BigInteger.valueOf(most)) > 0) {
        throw new Fault(2, t.place);
      }
      return v.intValue();
    }
  }

  static final class Told {
    int w = 6;
    int h = 4;
    int[][] kind = new int[8][6];
    int[][] bars = new int[8][6];
    boolean[] shaft = new boolean[8];
    int crew = 4;
    int store = 5;
    int[] price = {0, 1, 1, 1, 1, 0};
    List<int[]> orders = new ArrayList<>(); // T, then KINDS
  }

  static Told readPit(String text) {
    Tokens t = new Tokens(text);
    Told p = new Told();
    int clauses = 0;
    int shafts = 0;
    while (!t.ended()) {
      Token word = t.take();
      boolean known = List.of("size", "seam", "water", "shaft", "crew", "store", "price", "order").contains(word.text);
      if (!known) {
        throw new Fault(1, word.place);
      }
      clauses++;
      if (clauses > 60) {
        throw new Fault(3, word.place);
      }
      if (word.text.equals("size")) {
        if (clauses > 1) {
          throw new Fault(4, word.place);
        }
        p.w = t.number(1, 8);
        p.h = t.number(1, 6);
      } else if (word.text.equals("seam")) {
        int x = t.number(0, p.w - 1);
        int y = t.number(0, p.h - 1);
        int w = t.number(1, p.w - x);
        int h = t.number(1, p.h - y);
        int k = t.number(1, 4);
        int b = t.number(1, 9);
        for (int i = 0; i < w; i++) {
          for (int j = 0; j < h; j++) {
            p.kind[x + i][y + j] = k;
            p.bars[x + i][y + j] = b;
          }
        }
      } else if (word.text.equals("water")) {
        int x = t.number(0, p.w - 1);
        int y = t.number(0, p.h - 1);
        p.kind[x][y] = 5;
        p.bars[x][y] = 0;
      } else if (word.text.equals("shaft")) {
        shafts++;
        if (shafts > 4) {
          throw new Fault(3, word.place);
        }
        p.shaft[t.number(0, p.w - 1)] = true;
      } else if (word.text.equals("crew")) {
        p.crew = t.number(1, 9);
      } else if (word.text.equals("store")) {
        p.store = t.number(0, 20);
      } else if (word.text.equals("price")) {
        int k = t.number(1, 4);
        p.price[k] = t.number(0, 99);
      } else {
        if (p.orders.size() == 6) {
          throw new Fault(3, word.place);
        }
        List<Integer> row = new ArrayList<>();
        row.add(t.number(1, 60));
        row.add(t.number(1, 4));
        while (t.peek().isNumber()) {
          Token k = t.peek();
          int kind = t.number(1, 4);
          if (row.size() == 9) {
            throw new Fault(3, k.place);
          }
          row.add(kind);
        }
        t.want("end");
        p.orders.add(row.stream().mapToInt(Integer::intValue).toArray());
      }
      t.want(";");
    }
    return p;
  }

  interface Expr {
    int of(Map<String, Integer> words);
  }

  static Expr readLaw(String text) {
    Tokens t = new Tokens(text);
    Expr e = sum(t, 0);
    if (!t.ended()) {
      throw new Fault(1, t.peek().place);
    }
    return e;
  }

  private static Expr sum(Tokens t, int open) {
    Expr e = product(t, open);
    while (t.peek().text.equals("+") || t.peek().text.equals("-")) {
      boolean plus = t.take().text.equals("+");
      Expr a = e;
      Expr b = product(t, open);
      e = plus ? m -> a.of(m) + b.of(m) : m -> a.of(m) - b.of(m);
    }
    return e;
  }

  private static Expr product(Tokens t, int open) {
    Expr e = unit(t, open);
    while (t.peek().text.equals("*") || t.peek().text.equals("/")) {
      boolean times = t.take().text.equals("*");
      Expr a = e;
      Expr b = unit(t, open);
      e = times ? m -> a.of(m) * b.of(m) : m -> b.of(m) == 0 ? 0 : a.of(m) / b.of(m);
    }
    return e;
  }

  private static Expr unit(Tokens t, int open) {
    Token first = t.peek();
    if (first.isNumber()) {
      int n = t.number(0, 999);
      return m -> n;
    }
    t.take();
    boolean opens = List.of("(", "least", "most").contains(first.text);
    if (opens && open == 6) {
      throw new Fault(3, first.place);
    }
    if (first.text.equals("(")) {
      Expr e = sum(t, open + 1);
      t.want(")");
      return e;
    }
    if (opens) {
      t.want("[");
      Expr a = sum(t, open + 1);
      t.want(",");
      Expr b = sum(t, open + 1);
      t.want("]");
      boolean least = first.text.equals("least");
      return m -> least ? Math.min(a.of(m), b.of(m)) : Math.max(a.of(m), b.of(m));
    }
    if (List.of("wide", "deep", "over", "open", "props", "bars", "kind", "shift").contains(first.text)) {
      return m -> m.get(first.text);
    }
    throw new Fault(1, first.place);
  }

  static final class Step {
    String word;
    int a;
    int b;
    List<Step> inside;
  }

  static List<Step> readWork(String text, Told p) {
    Tokens t = new Tokens(text);
    List<Step> steps = steps(t, p, 0);
    if (!t.ended()) {
      throw new Fault(1, t.peek().place);
    }
    return steps;
  }

  private static List<Step> steps(Tokens t, Told p, int open) {
    List<Step> steps = new ArrayList<>();
    while (!t.ended() && !t.peek().text.equals("]")) {
      Token word = t.take();
      Step s = new Step();
      s.word = word.text;
      if (s.word.equals("dig") || s.word.equals("prop")) {
        s.a = t.number(0, p.w - 1);
        s.b = t.number(0, p.h - 1);
      } else if (s.word.equals("sell")) {
        s.a = t.number(1, 4);
        s.b = t.number(1, 99);
      } else if (s.word.equals("again")) {
        if (open == 6) {
          throw new Fault(3, word.place);
        }
        s.a = t.number(0, 20);
        t.want("[");
        s.inside = steps(t, p, open + 1);
        t.want("]");
      } else if (!s.word.equals("pump") && !s.word.equals("shift")) {
        throw new Fault(1, word.place);
      }
      t.want(";");
      steps.add(s);
    }
    return steps;
  }

  static Map<Integer, Integer> readBook(String text) {
    Tokens t = new Tokens(text);
    Map<Integer, Integer> lines = new HashMap<>();
    while (!t.ended()) {
      Token first = t.peek();
      int x = t.number(0, 7);
      if (lines.containsKey(x)) {
        throw new Fault(2, first.place);
      }
      lines.put(x, t.number(0, 6));
      t.want(";");
    }
    return lines;
  }

  /** The mine as it stands: 0 WHOLE, 1 DUG, 2 PROPPED, 3 FALLEN. */
  final class State {
    int[][] state = new int[8][6];
    int[] belt = new int[6];
    int[] sold = new int[6];
    int[] gone = new int[6];
    int[] fate = new int[6];
    int shift = 1;
    int dug = 0;
    int props = told.store;
    int pence = 0;
    int harm = 0;
    int wet = told.h;
    int raised = 0;
    int fell = 0;

    State copy() {
      State s = new State();
      for (int x = 0; x < 8; x++) {
        s.state[x] = state[x].clone();
      }
      s.belt = belt.clone();
      s.sold = sold.clone();
      s.gone = gone.clone();
      s.fate = fate.clone();
      s.shift = shift;
      s.dug = dug;
      s.props = props;
      s.pence = pence;
      s.harm = harm;
      s.wet = wet;
      s.raised = raised;
      s.fell = fell;
      return s;
    }

    boolean in(int x, int y) {
      return x >= 0 && x < told.w && y >= 0 && y < told.h;
    }

    boolean is(int x, int y, int what) {
      return in(x, y) && state[x][y] == what;
    }

    boolean isOpen(int x, int y) {
      return is(x, y, 1) || is(x, y, 2);
    }

    boolean atHand(int x, int y) {
      return isOpen(x - 1, y) || isOpen(x + 1, y) || isOpen(x, y - 1) || isOpen(x, y + 1)
          || (y == 0 && told.shaft[x]);
    }

    int wide(int x, int y) {
      if (!is(x, y, 1)) {
        return 0;
      }
      int from = x;
      int to = x;
      while (is(from - 1, y, 1)) {
        from--;
      }
      while (is(to + 1, y, 1)) {
        to++;
      }
      return to - from + 1;
    }

    int law(Expr e, int x, int y, boolean lung) {
      Map<String, Integer> m = new HashMap<>();
      m.put("wide", lung ? 1 : wide(x, y));
      m.put("deep", y);
      m.put("over", y == 0 ? 0 : told.kind[x][y - 1]);
      m.put("open", isOpen(x, y - 1) ? 1 : 0);
      m.put("props", (is(x - 1, y, 2) ? 1 : 0) + (is(x + 1, y, 2) ? 1 : 0));
      m.put("bars", told.bars[x][y]);
      m.put("kind", told.kind[x][y]);
      m.put("shift", shift);
      return e.of(m);
    }

    boolean falls(int x, int y) {
      return is(x, y, 1) && law(fall, x, y, false) > 0;
    }

    int harmOf(int x, int y) {
      return Math.max(0, Math.min(99, law(harm(), x, y, true)));
    }

    private Expr harm() {
      return harmLaw;
    }

    List<int[]> falling() {
      List<int[]> them = new ArrayList<>();
      for (int x = 0; x < told.w; x++) {
        for (int y = 0; y < told.h; y++) {
          if (falls(x, y)) {
            them.add(new int[] {x, y});
          }
        }
      }
      return them;
    }

    int can(int x, int y) {
      if (isOpen(x, y)) {
        return 1;
      }
      if (!atHand(x, y)) {
        return 2;
      }
      if (y >= wet) {
        return 3;
      }
      return dug >= told.crew ? 4 : 0;
    }

    boolean canBut4(int x, int y) {
      return can(x, y) == 0 || can(x, y) == 4;
    }

    void dig(int x, int y) {
      boolean whole = state[x][y] == 0;
      if (whole) {
        int k = told.kind[x][y];
        int one = harmOf(x, y);
        for (int i = 0; i < told.bars[x][y]; i++) {
          belt[k]++;
          raised++;
          harm += one;
        }
        if (k == 5 && y < wet) {
          wet = y;
        }
      }
      state[x][y] = 1;
      dug++;
      for (int[] c : falling()) {
        state[c[0]][c[1]] = 3;
        fell++;
      }
    }

    int lacks(int[] order) {
      int lack = 0;
      for (int k = 1; k <= 4; k++) {
        int want = 0;
        for (int i = 1; i < order.length; i++) {
          want += order[i] == k ? 1 : 0;
        }
        lack += Math.max(0, want - belt[k]);
      }
      return lack;
    }

    boolean shift() {
      if (shift >= 200) {
        return false;
      }
      for (int i = 0; i < told.orders.size(); i++) {
        int[] order = told.orders.get(i);
        if (order[0] == shift) {
          if (lacks(order) == 0) {
            for (int j = 1; j < order.length; j++) {
              belt[order[j]]--;
              gone[order[j]]++;
              pence += told.price[order[j]];
            }
            fate[i] = 1;
          } else {
            fate[i] = 2;
          }
        }
      }
      shift++;
      dug = 0;
      return true;
    }

    boolean step(Step s) {
      switch (s.word) {
        case "dig":
          if (can(s.a, s.b) != 0) {
            return false;
          }
          dig(s.a, s.b);
          return true;
        case "prop":
          if (!is(s.a, s.b, 1) || s.b >= wet || props == 0) {
            return false;
          }
          state[s.a][s.b] = 2;
          props--;
          return true;
        case "pump":
          if (wet == told.h || dug >= told.crew) {
            return false;
          }
          wet = told.h;
          dug++;
          return true;
        case "shift":
          return shift();
        default:
          if (belt[s.a] < s.b) {
            return false;
          }
          belt[s.a] -= s.b;
          sold[s.a] += s.b;
          pence += s.b * told.price[s.a];
          return true;
      }
    }

    int pick() {
      int best = -1;
      int most = -1;
      for (int c = 0; c < 48; c++) {
        int x = c % 8;
        int y = c / 8;
        if (in(x, y) && canBut4(x, y) && told.kind[x][y] != 5) {
          int bars = state[x][y] == 0 ? told.bars[x][y] : 0;
          if (bars > most) {
            most = bars;
            best = c;
          }
        }
      }
      return best;
    }
  }

  Told told = new Told();
  Expr fall;
  Expr harmLaw;
  Map<Integer, Integer> book = new HashMap<>();
  State now;
  List<State> past = new ArrayList<>();
  List<State> images = new ArrayList<>();
  List<List<State>> imagePasts = new ArrayList<>();
  String tape = "";
  int fault = -1;
  int refused = 0;
  int[] status = new int[3];

  Oracle() {
    settle(new Told());
  }

  private void settle(Told p) {
    told = p;
    fall = readLaw("wide - 2");
    harmLaw = readLaw("kind");
    book = new HashMap<>();
    past.clear();
    images.clear();
    imagePasts.clear();
    refused = 0;
    now = new State();
  }

  private void need(boolean holds) {
    if (!holds) {
      status[2]++;
      throw new IllegalArgumentException();
    }
  }

  private void needCell(int x, int y) {
    if (!now.in(x, y)) {
      status[0]++;
      throw new IndexOutOfBoundsException();
    }
  }

  private int[] needOrder(int order) {
    if (order < 0 || order >= told.orders.size()) {
      status[1]++;
      throw new NoSuchElementException();
    }
    return told.orders.get(order);
  }

  int feed(int... numbers) {
    if (tape.length() + 20 > 600) {
      return -1;
    }
    StringBuilder more = new StringBuilder(tape);
    for (int number : numbers) {
      for (int i = 3; i >= 0; i--) {
        more.append((char) (number >> 8 * i & 255));
      }
    }
    tape = more.toString();
    return tape.length();
  }

  private String text(int n, int most) {
    need(n >= 0 && n <= most && n <= tape.length());
    String text = tape.substring(0, n);
    tape = "";
    fault = -1;
    return text;
  }

  private int failed(Fault f) {
    fault = f.place;
    return f.kind - 10;
  }

  int pit(int n) {
    String text = text(n, 600);
    try {
      settle(readPit(text));
    } catch (Fault f) {
      return failed(f);
    }
    int bars = 0;
    for (int[] column : told.bars) {
      for (int b : column) {
        bars += b;
      }
    }
    return bars;
  }

  int law(int which, int n) {
    need(which == 0 || which == 1);
    String text = text(n, 150);
    try {
      Expr e = readLaw(text);
      if (which == 0) {
        fall = e;
      } else {
        harmLaw = e;
      }
      return 1;
    } catch (Fault f) {
      return failed(f);
    }
  }

  private int begun;
  private int done;

  private void run(List<Step> steps) {
    for (Step s : steps) {
      if (begun == 200) {
        return;
      }
      begun++;
      if (s.word.equals("again")) {
        for (int i = 0; i < s.a; i++) {
          run(s.inside);
        }
      } else if (now.step(s)) {
        done++;
      } else {
        refused++;
      }
    }
  }

  int work(int n) {
    String text = text(n, 150);
    if (past.size() == 16) {
      return -20;
    }
    try {
      List<Step> steps = readWork(text, told);
      past.add(now.copy());
      begun = 0;
      done = 0;
      refused = 0;
      run(steps);
      return done;
    } catch (Fault f) {
      return failed(f);
    }
  }

  int book(int n) {
    String text = text(n, 100);
    try {
      book = readBook(text);
      return book.size();
    } catch (Fault f) {
      return failed(f);
    }
  }

  int undo() {
    if (past.isEmpty()) {
      return -1;
    }
    now = past.remove(past.size() - 1).copy();
    refused = 0;
    return past.size();
  }

  int told(int what) {
    need(what >= 0 && what <= 10);
    int[] all = {told.w, told.h, told.orders.size(), now.shift, told.crew - now.dug, now.props, now.pence, now.harm,
        now.wet, refused, book.size()};
    return all[what];
  }

  int cell(int x, int y, int what) {
    needCell(x, y);
    need(what >= 0 && what <= 3);
    return new int[] {told.kind[x][y], told.bars[x][y], now.state[x][y], now.wide(x, y)}[what];
  }

  int kind(int kind, int what) {
    need(kind >= 1 && kind <= 4 && what >= 0 && what <= 4);
    int whole = 0;
    for (int x = 0; x < told.w; x++) {
      for (int y = 0; y < told.h; y++) {
        whole += told.kind[x][y] == kind && now.state[x][y] == 0 ? told.bars[x][y] : 0;
      }
    }
    return new int[] {whole, now.belt[kind], now.sold[kind], now.gone[kind], told.price[kind]}[what];
  }

  private int worth(int[] order) {
    int sum = 0;
    for (int i = 1; i < order.length; i++) {
      sum += told.price[order[i]];
    }
    return sum;
  }

  int order(int order, int what) {
    int[] row = needOrder(order);
    need(what >= 0 && what <= 3);
    return new int[] {row[0], row.length - 1, worth(row), now.fate[order]}[what];
  }

  int note(int order, int i) {
    int[] row = needOrder(order);
    need(i >= 0 && i < row.length - 1);
    return row[i + 1];
  }

  int lacks(int order) {
    return now.lacks(needOrder(order));
  }

  int can(int x, int y) {
    needCell(x, y);
    return now.can(x, y);
  }

  boolean falls(int x, int y) {
    needCell(x, y);
    return now.falls(x, y);
  }

  int risks(int x, int y) {
    needCell(x, y);
    if (now.isOpen(x, y) || !now.atHand(x, y)) {
      return -1;
    }
    State s = now.copy();
    s.state[x][y] = 1;
    return s.falling().size();
  }

  int harm(int x, int y) {
    needCell(x, y);
    return now.harmOf(x, y);
  }

  private List<Integer> bestRow;
  private int bestPence;

  private void tryDigs(State s, int left, List<Integer> row, int pence) {
    boolean better = bestRow == null || pence > bestPence;
    if (!better && pence == bestPence) {
      better = row.size() < bestRow.size();
      if (row.size() == bestRow.size()) {
        for (int i = 0; i < row.size(); i++) {
          if (!row.get(i).equals(bestRow.get(i))) {
            better = row.get(i) < bestRow.get(i);
            break;
          }
        }
      }
    }
    if (better) {
      bestRow = new ArrayList<>(row);
      bestPence = pence;
    }
    if (left == 0) {
      return;
    }
    // Against the order of CELLS, so that ties are not settled by chance.
    for (int c = 47; c >= 0; c--) {
      int x = c % 8;
      int y = c / 8;
      if (s.in(x, y) && s.canBut4(x, y)) {
        State after = s.copy();
        int k = told.kind[x][y];
        after.dig(x, y);
        row.add(c);
        tryDigs(after, left - 1, row, pence + (after.belt[k] - s.belt[k]) * told.price[k]);
        row.remove(row.size() - 1);
      }
    }
  }

  private static long digits(List<Integer> cells) {
    long number = 0;
    for (int c : cells) {
      number = number * 64 + c + 1;
    }
    return number;
  }

  long best(int n, int what) {
    need(n >= 0 && n <= 3 && (what == 0 || what == 1));
    bestRow = null;
    tryDigs(now, n, new ArrayList<>(), 0);
    return what == 0 ? bestPence : digits(bestRow);
  }

  /** Betters what is known of each CELL by its neighbours till nothing gets better. */
  int way(int x, int y, int what) {
    needCell(x, y);
    need(what == 0 || what == 1);
    if (now.isOpen(x, y)) {
      return 0;
    }
    int[][] many = new int[8][6];
    int[][] bars = new int[8][6];
    boolean better = true;
    while (better) {
      better = false;
      for (int i = 0; i < told.w; i++) {
        for (int j = 0; j < told.h; j++) {
          boolean goal = i == x && j == y;
          if (now.isOpen(i, j) || (told.kind[i][j] == 5 && !goal)) {
            continue;
          }
          int own = now.state[i][j] == 0 ? told.bars[i][j] : 0;
          if (now.atHand(i, j) && many[i][j] != 1) {
            many[i][j] = 1;
            bars[i][j] = own;
            better = true;
          }
          for (int[] d : new int[][] {{1, 0}, {-1, 0}, {0, 1}, {0, -1}}) {
            int k = i + d[0];
            int l = j + d[1];
            if (!now.in(k, l) || many[k][l] == 0 || (k == x && l == y)) {
              continue;
            }
            int m = many[k][l] + 1;
            int s = bars[k][l] + own;
            if (many[i][j] == 0 || m < many[i][j] || (m == many[i][j] && s > bars[i][j])) {
              many[i][j] = m;
              bars[i][j] = s;
              better = true;
            }
          }
        }
      }
    }
    if (many[x][y] == 0) {
      return -1;
    }
    return what == 0 ? many[x][y] : bars[x][y];
  }

  private List<Integer> holding(State s, List<Integer> dug, int from, int left, List<Integer> chosen) {
    if (left == 0) {
      return s.falling().isEmpty() ? new ArrayList<>(chosen) : null;
    }
    for (int i = from; i < dug.size(); i++) {
      int c = dug.get(i);
      s.state[c % 8][c / 8] = 2;
      chosen.add(c);
      List<Integer> found = holding(s, dug, i + 1, left - 1, chosen);
      chosen.remove(chosen.size() - 1);
      s.state[c % 8][c / 8] = 1;
      if (found != null) {
        return found;
      }
    }
    return null;
  }

  long hold(int what) {
    need(what == 0 || what == 1);
    List<Integer> dug = new ArrayList<>();
    for (int c = 0; c < 48; c++) {
      if (now.is(c % 8, c / 8, 1)) {
        dug.add(c);
      }
    }
    for (int many = 0; many <= 4; many++) {
      List<Integer> found = holding(now.copy(), dug, 0, many, new ArrayList<>());
      if (found != null) {
        return what == 0 ? many : digits(found);
      }
    }
    return -1;
  }

  int fill(int what) {
    need(what == 0 || what == 1);
    int most = 0;
    int best = 0;
    for (int set = 0; set < 1 << told.orders.size(); set++) {
      int[] left = now.belt.clone();
      int pence = 0;
      boolean good = true;
      for (int i = 0; i < told.orders.size(); i++) {
        if ((set >> i & 1) == 1) {
          int[] row = told.orders.get(i);
          good &= row[0] >= now.shift;
          pence += worth(row);
          for (int j = 1; j < row.length; j++) {
            left[row[j]]--;
          }
        }
      }
      for (int l : left) {
        good &= l >= 0;
      }
      if (good && pence > most) {
        most = pence;
        best = set;
      }
    }
    return what == 0 ? most : best;
  }

  int tap(int x) {
    need(x >= 0 && x < told.w);
    return heard(x);
  }

  private int heard(int x) {
    int y = 0;
    while (y < told.h && (x < 0 || x >= told.w || told.kind[x][y] == 0 || told.kind[x][y] == 5)) {
      y++;
    }
    return y;
  }

  int moved(int x, int s) {
    need(x >= 0 && x < told.w && s >= -7 && s <= 7);
    return heard(x - s);
  }

  private List<Integer> fitList(Map<Integer, Integer> lines) {
    List<Integer> fits = new ArrayList<>();
    for (int s = -7; s <= 7; s++) {
      boolean good = true;
      for (int x : lines.keySet()) {
        good &= x < told.w && heard(x - s) == lines.get(x);
      }
      if (good) {
        fits.add(s);
      }
    }
    return fits;
  }

  int fits() {
    int bits = 0;
    for (int s : fitList(book)) {
      bits += 1 << s + 7;
    }
    return bits;
  }

  int next(int what) {
    need(what == 0 || what == 1);
    int best = -1;
    int fewest = -1;
    for (int x = told.w - 1; x >= 0; x--) {
      if (!book.containsKey(x)) {
        int worst = 0;
        for (int d = 0; d <= told.h; d++) {
          Map<Integer, Integer> lines = new HashMap<>(book);
          lines.put(x, d);
          worst = Math.max(worst, fitList(lines).size());
        }
        if (best < 0 || worst <= fewest) {
          best = x;
          fewest = worst;
        }
      }
    }
    return what == 0 ? best : fewest;
  }

  int canon(int x, int other, int what) {
    need(x >= 0 && x < told.w && other >= 0 && other < told.w && (what == 0 || what == 1));
    int best = -1;
    int most = -1;
    for (int far = 0; far < told.h; far++) {
      int agree = 0;
      for (int y = far; y < told.h; y++) {
        int k = told.kind[other][y - far];
        agree += k >= 1 && k <= 4 && told.kind[x][y] == k ? 1 : 0;
      }
      if (agree > most) {
        most = agree;
        best = far;
      }
    }
    return what == 0 ? best : most;
  }

  private static int gets(int price, int a, int b) {
    return a * Math.max(0, price - a - b);
  }

  int owners(int kind, int n, int what) {
    need(kind >= 1 && kind <= 4 && n >= 0 && n <= 20 && what >= 0 && what <= 2);
    int price = told.price[kind];
    int rests = 0;
    int first = -1;
    int got = 0;
    for (int a = 0; a <= n; a++) {
      for (int b = 0; b <= n; b++) {
        boolean rest = true;
        for (int c = 0; c <= n; c++) {
          rest &= gets(price, c, b) <= gets(price, a, b) && gets(price, c, a) <= gets(price, b, a);
        }
        if (rest) {
          rests++;
          if (first < 0) {
            first = 100 * a + b;
            got = gets(price, a, b);
          }
        }
      }
    }
    return new int[] {rests, first, got}[what];
  }

  int face(int kind, int what) {
    need(kind >= 1 && kind <= 4 && (what == 0 || what == 1));
    int most = 0;
    int best = -1;
    for (int y = 0; y < told.h; y++) {
      for (int x = 0; x < told.w; x++) {
        int many = 0;
        while (x + many < told.w && told.kind[x + many][y] == kind && now.state[x + many][y] == 0) {
          many++;
        }
        if (many > most) {
          most = many;
          best = 8 * y + x;
        }
      }
    }
    return what == 0 ? most : best;
  }

  int level() {
    int best = -1;
    int most = -1;
    for (int y = 0; y < told.h; y++) {
      int sum = 0;
      for (int x = 0; x < told.w; x++) {
        sum += now.state[x][y] == 0 ? told.bars[x][y] : 0;
      }
      if (sum > most) {
        most = sum;
        best = y;
      }
    }
    return best;
  }

  int pick() {
    return now.pick();
  }

  private int[] play(int seed, int q, int shifts) {
    State s = now.copy();
    long value = seed & 0xffffffffL;
    int strikes = 0;
    for (int i = 0; i < shifts; i++) {
      value = (value * 1103515245L + 12345L) & 0xffffffffL;
      if ((value >> 16 & 0x7fff) % 16 < q) {
        strikes++;
      } else {
        while (s.dug < told.crew && s.pick() >= 0) {
          int c = s.pick();
          s.dig(c % 8, c / 8);
        }
      }
      s.shift();
    }
    return new int[] {s.raised - now.raised, s.fell - now.fell, strikes, s.harm - now.harm};
  }

  int decade(int seed, int q, int shifts, int what) {
    need(q >= 0 && q <= 16 && shifts >= 1 && shifts <= 40 && what >= 0 && what <= 3);
    return play(seed, q, shifts)[what];
  }

  int span(int seed, int many, int q, int shifts, int what) {
    need(many >= 1 && many <= 20 && q >= 0 && q <= 16 && shifts >= 1 && shifts <= 40 && what >= 0 && what <= 2);
    int fewest = 1000000;
    int most = -1;
    int none = 0;
    for (int i = 0; i < many; i++) {
      int[] got = play(seed + i, q, shifts);
      fewest = Math.min(fewest, got[0]);
      most = Math.max(most, got[0]);
      none += got[1] == 0 ? 1 : 0;
    }
    return new int[] {fewest, most, none}[what];
  }

  int sums(int what) {
    need(what >= 0 && what <= 3);
    int open = 0;
    int hand = 0;
    for (int x = 0; x < told.w; x++) {
      for (int y = 0; y < told.h; y++) {
        open += now.isOpen(x, y) ? 1 : 0;
        hand += !now.isOpen(x, y) && now.atHand(x, y) ? 1 : 0;
      }
    }
    return new int[] {now.raised, now.fell, open, hand}[what];
  }

  int open(int y) {
    need(y >= 0 && y < told.h);
    int bits = 0;
    for (int x = 0; x < told.w; x++) {
      bits += now.isOpen(x, y) ? 1 << x : 0;
    }
    return bits;
  }

  private static List<State> copies(List<State> states) {
    List<State> all = new ArrayList<>();
    for (State s : states) {
      all.add(s.copy());
    }
    return all;
  }

  int image() {
    if (images.size() == 3) {
      return -1;
    }
    images.add(now.copy());
    imagePasts.add(copies(past));
    return images.size();
  }

  int restore() {
    if (images.isEmpty()) {
      return -1;
    }
    now = images.remove(images.size() - 1);
    past = imagePasts.remove(imagePasts.size() - 1);
    refused = 0;
    return images.size();
  }

  int status(int what) {
    return what >= 0 && what < 3 ? status[what] : -1;
  }

  int count(int what) {
    return what == 0 ? images.size() : what == 1 ? tape.length() : what == 2 ? past.size() : -1;
  }
}
