import java.util.Random;
import java.util.concurrent.Callable;

/** Runs of calls drawn by seeds, on LullabyPit and on the oracle: both answer and throw alike. */
public final class FuzzTest {
  private static final int RUNS = 3000;
  private static final int ROUNDS = 150;
  // An object is good for 512 calls; a round makes some 50 at most.
  private static final int CALLS = 440;
  private static final int FALLS = 8;
  private static final int RISKS = 9;
  private static final int HOLD = 14;

  private final Random random;
  private final LullabyPit pit = new LullabyPit();
  private final Oracle oracle = new Oracle();
  private final StringBuilder told = new StringBuilder();
  private int wrong = 0;
  private int calls = 0;

  private FuzzTest(long seed) {
    random = new Random(seed);
  }

  public static void main(String[] args) {
    int wrong = 0;
    int runs = args.length > 0 ? Integer.parseInt(args[0]) : RUNS;
    long first = args.length > 1 ? Long.parseLong(args[1]) : 1;
    for (long seed = first; seed < first + runs && wrong < 5; seed++) {
      wrong += new FuzzTest(seed).run(seed);
    }
    System.out.println(wrong == 0 ? runs + " drawn runs are as due" : wrong + " answers are not as due");
    if (wrong != 0) {
      System.exit(1);
    }
  }

  private int run(long seed) {
    text(pitText(), 600, n -> pit.pit(n), n -> oracle.pit(n), "pit");
    for (int i = 0; i < ROUNDS && calls < CALLS && wrong == 0; i++) {
      one();
    }
    if (wrong != 0) {
      System.out.println("seed " + seed + ":\n" + told);
    }
    return wrong;
  }

  private int upTo(int most) {
    return random.nextInt(most + 1);
  }

  /** Mostly from least to most, at times just outside. */
  private int near(int least, int most) {
    if (random.nextInt(25) == 0) {
      return random.nextBoolean() ? least - 1 : most + 1;
    }
    return least + random.nextInt(most - least + 1);
  }

  private static Object answer(Callable<?> call) {
    try {
      Object got = call.call();
      return got instanceof Integer ? Long.valueOf((Integer) got) : got;
    } catch (Exception e) {
      return e.getClass().getSimpleName();
    }
  }

  private void same(String name, Callable<?> a, Callable<?> b) {
    calls++;
    Object got = answer(a);
    Object due = answer(b);
    told.append(name).append(" -> ").append(got).append('\n');
    if (!got.equals(due)) {
      wrong++;
      told.append("  due is ").append(due).append('\n');
    }
  }

  interface Reading {
    int of(int n);
  }

  private void text(String text, int most, Reading a, Reading b, String name) {
    String cut = text.length() > most ? text.substring(0, most) : text;
    Kit.feed(pit, cut);
    for (int i = 0; i < cut.length(); i += 20) {
      calls++;
      int[] numbers = new int[5];
      for (int j = 0; j < 20; j++) {
        numbers[j / 4] = numbers[j / 4] << 8 | (i + j < cut.length() ? cut.charAt(i + j) : 0);
      }
      oracle.feed(numbers);
    }
    int n = random.nextInt(60) == 0 ? near(0, cut.length() + 25) : cut.length();
    same(name + " " + n + " [" + cut + "]", () -> a.of(n), () -> b.of(n));
    same("fault()", () -> pit.fault(), () -> oracle.fault);
    same("count(1)", () -> pit.count(1), () -> oracle.count(1));
  }

  private String blank() {
    return random.nextInt(30) == 0 ? "  " : "";
  }

  /** At times one sign of a text is lost, changed, doubled, or its end is cut off. */
  private String spoilt(String text) {
    if (text.isEmpty() || random.nextInt(6) != 0) {
      return text;
    }
    int at = random.nextInt(text.length());
    String signs = "0123456789; []()+-*/,aegz\u0000\u00e9A";
    char sign = signs.charAt(random.nextInt(signs.length()));
    switch (random.nextInt(4)) {
      case 0:
        return text.substring(0, at) + text.substring(at + 1);
      case 1:
        return text.substring(0, at) + sign + text.substring(at + 1);
      case 2:
        return text.substring(0, at) + sign + text.substring(at);
      default:
        return text.substring(0, at);
    }
  }

  private int rare(int least, int most) {
    return random.nextInt(400) == 0 ? most + 1 + upTo(2000) : least + upTo(most - least);
  }

  private String pitText() {
    StringBuilder s = new StringBuilder();
    int w = 6;
    int h = 4;
    if (random.nextInt(5) != 0) {
      w = 1 + upTo(7);
      h = 1 + upTo(5);
      s.append("size ").append(w).append(" ").append(h).append(";");
    }
    int clauses = 3 + upTo(14);
    int orders = 0;
    int shafts = 0;
    for (int i = 0; i < clauses; i++) {
      s.append(blank());
      switch (random.nextInt(11)) {
        case 0:
        case 1:
        case 2:
        case 3:
          int x = upTo(w - 1);
          int y = upTo(h - 1);
          s.append("seam ").append(x).append(" ").append(y).append(" ").append(rare(1, w - x)).append(" ")
              .append(rare(1, h - y)).append(blank()).append(" ").append(rare(1, 4)).append(" ").append(rare(1, 9));
          break;
        case 4:
          s.append("water ").append(rare(0, w - 1)).append(" ").append(rare(0, h - 1));
          break;
        case 5:
          shafts++;
          if (shafts > 4 && random.nextInt(9) != 0) {
            continue;
          }
          s.append("shaft").append(random.nextBoolean() ? " " : "").append(rare(0, w - 1));
          break;
        case 6:
          s.append("crew ").append(rare(1, 9));
          break;
        case 7:
          s.append("store ").append(rare(0, 20));
          break;
        case 8:
          s.append("price ").append(rare(1, 4)).append(" ").append(rare(0, random.nextBoolean() ? 99 : 8));
          break;
        case 9:
          orders++;
          if (orders > 6 && random.nextInt(9) != 0) {
            continue;
          }
          s.append("order ").append(rare(1, random.nextBoolean() ? 4 : 60));
          int notes = random.nextInt(50) == 0 ? 9 : 1 + upTo(random.nextBoolean() ? 2 : 7);
          for (int j = 0; j < notes; j++) {
            s.append(" ").append(rare(1, 4));
          }
          s.append(blank()).append(" end");
          break;
        default:
          if (random.nextInt(30) != 0) {
            continue;
          }
          s.append("size 3 3");
          break;
      }
      s.append(blank()).append(";");
    }
    if (random.nextInt(4) != 0 && shafts < 4) {
      s.append("shaft ").append(upTo(w - 1)).append(";");
    }
    while (random.nextInt(40) == 0 || (random.nextInt(4) != 0 && s.length() > 500 && s.length() < 590)) {
      s.append("crew 3;");
    }
    return spoilt(s.append(blank()).toString());
  }

  private String expr(int depth) {
    StringBuilder s = new StringBuilder(unit(depth));
    int more = upTo(random.nextInt(3));
    for (int i = 0; i < more; i++) {
      s.append(blank()).append(" ").append("+-*/".charAt(random.nextInt(4))).append(" ").append(unit(depth));
    }
    return s.toString();
  }

  private String unit(int depth) {
    int draw = random.nextInt(depth > 5 ? 10 : 14);
    String[] words = {"wide", "deep", "over", "open", "props", "bars", "kind", "shift"};
    if (draw < 8) {
      return blank() + words[draw];
    }
    if (draw < 11) {
      return blank() + (random.nextInt(8) == 0 ? rare(0, 999) : upTo(5));
    }
    if (draw == 11) {
      return "(" + expr(depth + 1) + blank() + ")";
    }
    return (random.nextBoolean() ? "least" : "most") + blank() + "[" + expr(depth + 1) + "," + expr(depth + 1) + "]";
  }

  private String lawText() {
    switch (random.nextInt(11)) {
      case 0:
        return "wide - 3";
      case 8:
      case 9:
        return "0";
      case 10:
        return "wide / 2";
      case 1:
        return "wide - props - 1";
      case 2:
        return "wide - 1 - open * 2";
      case 3:
        int deep = 5 + upTo(3);
        return "(".repeat(deep) + "1" + ")".repeat(deep);
      default:
        return spoilt(expr(random.nextInt(4)));
    }
  }

  private String stepText(int depth) {
    int x = random.nextInt(30) == 0 ? upTo(9) : upTo(oracle.told.w - 1);
    int y = random.nextInt(30) == 0 ? upTo(7) : upTo(oracle.told.h - 1);
    int draw = random.nextInt(depth > 6 ? 12 : 14);
    if (draw < 7) {
      int at = oracle.now.pick();
      if (at >= 0 && depth == 0 && random.nextInt(3) == 0) {
        return "dig " + at % 8 + " " + at / 8 + ";";
      }
      return "dig " + x + blank() + " " + y + ";";
    }
    if (draw < 9) {
      return "prop " + x + " " + y + ";";
    }
    if (draw == 9) {
      return "pump" + blank() + ";";
    }
    if (draw == 10) {
      return "shift;";
    }
    if (draw == 11) {
      return "sell " + rare(1, 4) + " " + rare(1, random.nextBoolean() ? 99 : 4) + ";";
    }
    StringBuilder s = new StringBuilder("again ").append(rare(0, random.nextBoolean() ? 20 : 3)).append("[");
    int many = upTo(3);
    for (int i = 0; i < many; i++) {
      s.append(stepText(depth + 1));
    }
    return s.append(blank()).append("];").toString();
  }

  private String workText() {
    if (random.nextInt(80) == 0) {
      return "again 20[again 20[shift;];];";
    }
    StringBuilder s = new StringBuilder();
    int many = upTo(9);
    for (int i = 0; i < many; i++) {
      String step = stepText(0);
      if (s.length() + step.length() <= 150) {
        s.append(blank()).append(step);
      }
    }
    return spoilt(s.toString());
  }

  private String bookText() {
    StringBuilder s = new StringBuilder();
    int shift = upTo(6) - 3;
    int many = upTo(random.nextInt(4) == 0 ? 9 : 3);
    for (int i = 0; i < many; i++) {
      int x = random.nextInt(12) == 0 ? upTo(8) : upTo(oracle.told.w - 1);
      int says = upTo(6);
      if (x < oracle.told.w && random.nextInt(8) != 0) {
        says = oracle.moved(x, shift);
      }
      s.append(x).append(" ").append(says).append(blank()).append(";");
    }
    return spoilt(s.toString());
  }

  private void one() {
    int draw = random.nextInt(46);
    if (draw < 8) {
      text(workText(), 150, n -> pit.work(n), n -> oracle.work(n), "work");
      ask(random.nextInt(35));
    } else if (draw == 8) {
      int which = near(0, 1);
      text(lawText(), 150, n -> pit.law(which, n), n -> oracle.law(which, n), "law " + which);
      ask(HOLD);
      ask(FALLS);
      ask(RISKS);
    } else if (draw == 9) {
      text(bookText(), 100, n -> pit.book(n), n -> oracle.book(n), "book");
    } else if (draw == 10 && random.nextInt(4) == 0) {
      text(pitText(), 600, n -> pit.pit(n), n -> oracle.pit(n), "pit");
    } else {
      ask(draw - 10);
    }
  }

  private void ask(int which) {
    int x = near(0, oracle.told.w - 1);
    int y = near(0, oracle.told.h - 1);
    int k = near(1, 4);
    int two = near(0, 1);
    int three = near(0, 2);
    int four = near(0, 3);
    int o = near(0, Math.max(0, oracle.told.orders.size() - 1));
    switch (which) {
      case 0: same("undo()", () -> pit.undo(), () -> oracle.undo()); break;
      case 1:
        int t = near(0, 10);
        same("told " + t, () -> pit.told(t), () -> oracle.told(t));
        break;
      case 2: same("cell " + x + " " + y + " " + four, () -> pit.cell(x, y, four), () -> oracle.cell(x, y, four)); break;
      case 3:
        int five = near(0, 4);
        same("kind " + k + " " + five, () -> pit.kind(k, five), () -> oracle.kind(k, five));
        break;
      case 4: same("order " + o + " " + four, () -> pit.order(o, four), () -> oracle.order(o, four)); break;
      case 5:
        int i = near(0, 4);
        same("note " + o + " " + i, () -> pit.note(o, i), () -> oracle.note(o, i));
        break;
      case 6: same("lacks " + o, () -> pit.lacks(o), () -> oracle.lacks(o)); break;
      case 7: same("can " + x + " " + y, () -> pit.can(x, y), () -> oracle.can(x, y)); break;
      case FALLS: same("falls " + x + " " + y, () -> pit.falls(x, y), () -> oracle.falls(x, y)); break;
      case RISKS: same("risks " + x + " " + y, () -> pit.risks(x, y), () -> oracle.risks(x, y)); break;
      case 10: same("harm " + x + " " + y, () -> pit.harm(x, y), () -> oracle.harm(x, y)); break;
      case 11:
        int n = random.nextInt(6) == 0 ? near(0, 3) : near(0, 2);
        same("best " + n + " " + two, () -> pit.best(n, two), () -> oracle.best(n, two));
        break;
      case 12:
      case 13: same("way " + x + " " + y + " " + two, () -> pit.way(x, y, two), () -> oracle.way(x, y, two)); break;
      case HOLD:
      case 15:
        if (oracle.sums(2) <= 14) {
          same("hold " + two, () -> pit.hold(two), () -> oracle.hold(two));
        }
        pit.sums(2);
        break;
      case 16: same("fill " + two, () -> pit.fill(two), () -> oracle.fill(two)); break;
      case 17: same("tap " + x, () -> pit.tap(x), () -> oracle.tap(x)); break;
      case 18:
        int s = near(-7, 7);
        same("moved " + x + " " + s, () -> pit.moved(x, s), () -> oracle.moved(x, s));
        break;
      case 19: same("fits()", () -> pit.fits(), () -> oracle.fits()); break;
      case 20: same("next " + two, () -> pit.next(two), () -> oracle.next(two)); break;
      case 21:
        int z = near(0, oracle.told.w - 1);
        same("canon " + x + " " + z + " " + two, () -> pit.canon(x, z, two), () -> oracle.canon(x, z, two));
        break;
      case 22:
        int m = near(0, 20);
        same("owners " + k + " " + m + " " + three, () -> pit.owners(k, m, three), () -> oracle.owners(k, m, three));
        break;
      case 23: same("face " + k + " " + two, () -> pit.face(k, two), () -> oracle.face(k, two)); break;
      case 24: same("level()", () -> pit.level(), () -> oracle.level()); break;
      case 25: same("pick()", () -> pit.pick(), () -> oracle.pick()); break;
      case 26: decade(four); break;
      case 27: if (random.nextInt(4) == 0) { span(three); } break;
      case 28: same("sums " + four, () -> pit.sums(four), () -> oracle.sums(four)); break;
      case 29: same("open " + y, () -> pit.open(y), () -> oracle.open(y)); break;
      case 30: same("image()", () -> pit.image(), () -> oracle.image()); break;
      case 31: same("restore()", () -> pit.restore(), () -> oracle.restore()); break;
      case 32: same("status " + three, () -> pit.status(three), () -> oracle.status(three)); break;
      case 33: same("count " + three, () -> pit.count(three), () -> oracle.count(three)); break;
      default: feed(); break;
    }
  }

  private void decade(int what) {
    int seed = random.nextInt();
    int q = near(0, 16);
    int shifts = near(1, random.nextBoolean() ? 40 : 4);
    same("decade " + seed + " " + q + " " + shifts + " " + what,
        () -> pit.decade(seed, q, shifts, what), () -> oracle.decade(seed, q, shifts, what));
  }

  private void span(int what) {
    int seed = random.nextInt(9) == 0 ? Integer.MAX_VALUE - 2 : random.nextInt();
    int many = near(1, 20);
    int q = near(0, 16);
    int shifts = near(1, random.nextBoolean() ? 40 : 4);
    same("span " + seed + " " + many + " " + q + " " + shifts + " " + what,
        () -> pit.span(seed, many, q, shifts, what), () -> oracle.span(seed, many, q, shifts, what));
  }

  private void feed() {
    int a = random.nextInt();
    if (random.nextInt(10) == 0) {
      for (int i = 0; i < 31; i++) {
        same("feed", () -> pit.feed(a, a, a, a, a), () -> oracle.feed(a, a, a, a, a));
      }
      same("pit 600", () -> pit.pit(601), () -> oracle.pit(601));
      same("law 151", () -> pit.law(0, 151), () -> oracle.law(0, 151));
      same("work 151", () -> pit.work(151), () -> oracle.work(151));
      same("book 101", () -> pit.book(101), () -> oracle.book(101));
      same("book 100", () -> pit.book(100), () -> oracle.book(100));
      same("fault()", () -> pit.fault(), () -> oracle.fault);
    }
  }
}
