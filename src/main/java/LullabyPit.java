import java.util.Arrays;
import java.util.NoSuchElementException;

/** A mine of music; the numbered promises of DOC.md say what each call answers. */
public final class LullabyPit {
  public static final int NONE = -1;

  private static final int TAPE_BYTES = 600;
  private static final int FED_BYTES = 20;
  private static final int SHORT_BYTES = 150;
  private static final int BOOK_BYTES = 100;
  private static final int FAULT_BASE = 10;
  private static final int WORKS_FULL = -20;
  private static final int ACROSS = 8;
  private static final int DOWN = 6;
  private static final int CELLS = 48;
  private static final int MUSIC = 4;
  private static final int WATER = 5;
  private static final int KINDS = 6;
  private static final int MOST_ORDERS = 6;
  private static final int MOST_NOTES = 8;
  private static final int MOST_OPEN = 6;
  private static final int MOST_MOVE = 7;
  private static final int MOST_BROUGHT = 20;

  private final Tape tape;
  private final Pit pit;
  private final Pit newPit;
  private final Law fallLaw;
  private final Law harmLaw;
  private final Law newLaw;
  private final Mine mine;
  private final Program program;
  private final Past past;
  private final Survey survey;
  private final Taps taps;
  private final Decade decade;
  private final Market market;
  private final int[] refusals;
  private int refusedSteps;

  public LullabyPit() {
    tape = new Tape();
    pit = new Pit();
    newPit = new Pit();
    fallLaw = new Law();
    harmLaw = new Law();
    newLaw = new Law();
    fallLaw.beFall();
    harmLaw.beHarm();
    mine = new Mine(pit, fallLaw, harmLaw);
    mine.begin();
    program = new Program();
    past = new Past();
    survey = new Survey(pit, mine);
    taps = new Taps(pit);
    decade = new Decade(mine);
    market = new Market();
    refusals = new int[3];
  }

  public int feed(int a, int b, int c, int d, int e) {
    if (tape.held + FED_BYTES > TAPE_BYTES) {
      return NONE;
    }
    tape.put(a);
    tape.put(b);
    tape.put(c);
    tape.put(d);
    tape.put(e);
    return tape.held;
  }

  public int pit(int n) throws IllegalArgumentException {
    takeText(n, TAPE_BYTES);
    newPit.read(tape);
    if (!tape.good()) {
      return tape.fault - FAULT_BASE;
    }
    pit.copyFrom(newPit);
    fallLaw.beFall();
    harmLaw.beHarm();
    mine.begin();
    past.forget();
    taps.forget();
    refusedSteps = 0;
    return pit.allBars();
  }

  public int law(int which, int n) throws IllegalArgumentException {
    need(which == 0 || which == 1);
    takeText(n, SHORT_BYTES);
    newLaw.read(tape);
    if (!tape.good()) {
      return tape.fault - FAULT_BASE;
    }
    if (which == 0) {
      fallLaw.copyFrom(newLaw);
    } else {
      harmLaw.copyFrom(newLaw);
    }
    return 1;
  }

  public int work(int n) throws IllegalArgumentException {
    takeText(n, SHORT_BYTES);
    if (past.isFull()) {
      return WORKS_FULL;
    }
    program.read(tape, pit);
    if (!tape.good()) {
      return tape.fault - FAULT_BASE;
    }
    past.keep(mine);
    Program.run(program, mine, 0, program.length, 0);
    refusedSteps = program.refused;
    return program.done;
  }

  public int book(int n) throws IllegalArgumentException {
    takeText(n, BOOK_BYTES);
    taps.read(tape);
    return tape.good() ? taps.lines : tape.fault - FAULT_BASE;
  }

  public int fault() {
    return tape.place;
  }

  public int undo() {
    if (past.works == 0) {
      return -1;
    }
    past.takeBack(mine);
    refusedSteps = 0;
    return past.works;
  }

  public int told(int what) throws IllegalArgumentException {
    need(what >= 0 && what <= 10);
    switch (what) {
      case 0: return pit.width;
      case 1: return pit.height;
      case 2: return pit.orders;
      case 3: return mine.shift;
      case 4: return pit.crew - mine.digs;
      case 5: return mine.props;
      case 6: return mine.pence;
      case 7: return mine.lungs;
      case 8: return mine.wetRow;
      case 9: return refusedSteps;
      default: return taps.lines;
    }
  }

  public int cell(int x, int y, int what)
      throws IndexOutOfBoundsException, IllegalArgumentException {
    int at = cellAt(x, y);
    need(what >= 0 && what <= 3);
    switch (what) {
      case 0: return pit.kinds[at];
      case 1: return pit.bars[at];
      case 2: return mine.stateOf(at);
      default: return mine.wide(at);
    }
  }

  public int kind(int kind, int what) throws IllegalArgumentException {
    need(isMusic(kind) && what >= 0 && what <= 4);
    switch (what) {
      case 0: return mine.wholeBars(kind);
      case 1: return mine.belt[kind];
      case 2: return mine.sold[kind];
      case 3: return mine.gone[kind];
      default: return pit.prices[kind];
    }
  }

  public int order(int order, int what) throws NoSuchElementException, IllegalArgumentException {
    needOrder(order);
    need(what >= 0 && what <= 3);
    switch (what) {
      case 0: return pit.orderShifts[order];
      case 1: return pit.orderSizes[order];
      case 2: return pit.orderWorth(order);
      default: return mine.fates[order];
    }
  }

  public int note(int order, int i) throws NoSuchElementException, IllegalArgumentException {
    needOrder(order);
    need(i >= 0 && i < pit.orderSizes[order]);
    return pit.notes[order * MOST_NOTES + i];
  }

  public int lacks(int order) throws NoSuchElementException {
    needOrder(order);
    return mine.lacking(order);
  }

  public int can(int x, int y) throws IndexOutOfBoundsException {
    return mine.obstacle(cellAt(x, y));
  }

  public boolean falls(int x, int y) throws IndexOutOfBoundsException {
    return mine.wouldFall(cellAt(x, y));
  }

  public int risks(int x, int y) throws IndexOutOfBoundsException {
    int at = cellAt(x, y);
    int obstacle = mine.obstacle(at);
    if (obstacle == Mine.IS_OPEN || obstacle == Mine.NOT_AT_HAND) {
      return NONE;
    }
    return survey.risksOf(mine, at);
  }

  public int harm(int x, int y) throws IndexOutOfBoundsException {
    return mine.harmOf(cellAt(x, y));
  }

  public long best(int n, int what) throws IllegalArgumentException {
    need(n >= 0 && n <= Survey.MOST_DIGS && isEither(what));
    survey.findBest(mine, n);
    return what == 0 ? survey.bestPence : survey.bestCells;
  }

  public int way(int x, int y, int what)
      throws IndexOutOfBoundsException, IllegalArgumentException {
    int at = cellAt(x, y);
    need(isEither(what));
    return survey.wayTo(mine, at, what == 1);
  }

  public long hold(int what) throws IllegalArgumentException {
    need(isEither(what));
    return survey.propsToHold(mine, what == 1);
  }

  public int fill(int what) throws IllegalArgumentException {
    need(isEither(what));
    return survey.ordersToFill(mine, what == 1);
  }

  public int tap(int x) throws IllegalArgumentException {
    need(isColumn(x));
    return taps.heard(x, 0);
  }

  public int moved(int x, int s) throws IllegalArgumentException {
    need(isColumn(x) && s >= -MOST_MOVE && s <= MOST_MOVE);
    return taps.heard(x, s);
  }

  public int fits() {
    return taps.fitting();
  }

  public int next(int what) throws IllegalArgumentException {
    need(isEither(what));
    return taps.nextTap(what == 1);
  }

  public int canon(int x, int other, int what) throws IllegalArgumentException {
    need(isColumn(x) && isColumn(other) && isEither(what));
    return taps.canonOf(x, other, what == 1);
  }

  public int owners(int kind, int n, int what) throws IllegalArgumentException {
    need(isMusic(kind) && n >= 0 && n <= MOST_BROUGHT && what >= 0 && what <= 2);
    market.findRests(pit.prices[kind], n);
    switch (what) {
      case 0: return market.rests;
      case 1: return market.first;
      default: return market.firstGets;
    }
  }

  public int face(int kind, int what) throws IllegalArgumentException {
    need(isMusic(kind) && isEither(what));
    return mine.longestFace(kind, what == 1);
  }

  public int level() {
    return mine.richestRow();
  }

  public int pick() {
    return mine.richestCell();
  }

  public int decade(int seed, int q, int shifts, int what) throws IllegalArgumentException {
    need(isDecade(q, shifts) && what >= 0 && what <= 3);
    decade.play(mine, seed, q, shifts);
    switch (what) {
      case 0: return decade.bars;
      case 1: return decade.fell;
      case 2: return decade.strikes;
      default: return decade.lungs;
    }
  }

  public int span(int seed, int many, int q, int shifts, int what)
      throws IllegalArgumentException {
    need(many >= 1 && many <= 20 && isDecade(q, shifts) && what >= 0 && what <= 2);
    int fewest = 0;
    int most = 0;
    int unhurt = 0;
    for (int i = 0; i < many; i++) {
      decade.play(mine, seed + i, q, shifts);
      fewest = i == 0 ? decade.bars : Math.min(fewest, decade.bars);
      most = Math.max(most, decade.bars);
      unhurt += decade.fell == 0 ? 1 : 0;
    }
    switch (what) {
      case 0: return fewest;
      case 1: return most;
      default: return unhurt;
    }
  }

  public int sums(int what) throws IllegalArgumentException {
    need(what >= 0 && what <= 3);
    switch (what) {
      case 0: return mine.raised;
      case 1: return mine.fell;
      case 2: return Long.bitCount(mine.openCells());
      default: return Long.bitCount(mine.handCells() & ~mine.openCells());
    }
  }

  public int open(int y) throws IllegalArgumentException {
    need(y >= 0 && y < pit.height);
    return rowOf(mine.openCells(), y);
  }

  public int image() {
    return past.takeImage(mine) ? past.images : -1;
  }

  public int restore() {
    if (past.images == 0) {
      return -1;
    }
    past.bringBack(mine);
    refusedSteps = 0;
    return past.images;
  }

  public int status(int what) {
    return what >= 0 && what < refusals.length ? refusals[what] : NONE;
  }

  public int count(int what) {
    switch (what) {
      case 0: return past.images;
      case 1: return tape.held;
      case 2: return past.works;
      default: return NONE;
    }
  }

  private void takeText(int n, int most) {
    need(n >= 0 && n <= most && n <= tape.held);
    tape.begin(n);
  }

  private void need(boolean holds) {
    if (!holds) {
      refusals[2]++;
      throw new IllegalArgumentException("no such number here");
    }
  }

  private void needOrder(int order) {
    if (order < 0 || order >= pit.orders) {
      refusals[1]++;
      throw new NoSuchElementException("no such ORDER");
    }
  }

  private int cellAt(int x, int y) {
    if (x < 0 || x >= pit.width || y < 0 || y >= pit.height) {
      refusals[0]++;
      throw new IndexOutOfBoundsException("no such CELL");
    }
    return ACROSS * y + x;
  }

  private boolean isColumn(int x) {
    return x >= 0 && x < pit.width;
  }

  private static boolean isMusic(int kind) {
    return kind >= 1 && kind <= MUSIC;
  }

  private static boolean isEither(int what) {
    return what == 0 || what == 1;
  }

  private static boolean isDecade(int q, int shifts) {
    return q >= 0 && q <= Decade.SIDES && shifts >= 1 && shifts <= 40;
  }

  /** The CELLS of a row among a set of CELLS, X 0 the lowest bit. */
  private static int rowOf(long cells, int y) {
    return (int) (cells >>> (ACROSS * y)) & 255;
  }

  /** The bytes that were fed, and the reading of one text of them up to its first FAULT. */
  private static final class Tape {
    static final int CANNOT_STAND = 1;
    static final int NO_SUCH_NUMBER = 2;
    static final int TOO_MANY = 3;
    static final int TOO_LATE = 4;
    // No number of any text is that large: more digits need not be added up.
    private static final int HUGE = 10000;

    private final byte[] bytes = new byte[TAPE_BYTES];
    int held;
    private int end;
    private int at;
    /** Where the latest word or number begins. */
    int start;
    int fault;
    int place = NONE;

    void put(int number) {
      for (int shift = 24; shift >= 0; shift -= 8) {
        if (held < bytes.length) {
          bytes[held] = (byte) (number >>> shift);
          held++;
        }
      }
    }

    void begin(int n) {
      end = Math.min(n, bytes.length);
      at = 0;
      start = 0;
      fault = 0;
      place = NONE;
      held = 0;
    }

    boolean good() {
      return fault == 0;
    }

    /** The first FAULT stays; so of two at one place the lesser is to be told first. */
    void fail(int kind, int where) {
      if (fault == 0) {
        fault = kind;
        place = where;
      }
    }

    void failHere(int kind) {
      peek();
      fail(kind, at);
    }

    /** What stands behind the blanks; 0 at the end. */
    private int peek() {
      while (at < end && bytes[at] == ' ') {
        at++;
      }
      return at < end ? bytes[at] : 0;
    }

    boolean more() {
      peek();
      return fault == 0 && at < end;
    }

    boolean isNext(char sign) {
      return peek() == sign;
    }

    boolean isDigitNext() {
      int sign = peek();
      return sign >= '0' && sign <= '9';
    }

    void sign(char wanted) {
      if (peek() != wanted) {
        fail(CANNOT_STAND, at);
      } else if (at < end) {
        at++;
      }
    }

    void finish() {
      peek();
      if (at < end) {
        fail(CANNOT_STAND, at);
      }
    }

    /** A number from least to most; least, if there is a FAULT. */
    int number(int least, int most) {
      peek();
      start = at;
      int value = 0;
      while (at < end && bytes[at] >= '0' && bytes[at] <= '9') {
        value = value < HUGE ? value * 10 + bytes[at] - '0' : value;
        at++;
      }
      if (at == start) {
        fail(CANNOT_STAND, start);
      } else if (value < least || value > most) {
        fail(NO_SUCH_NUMBER, start);
      }
      return fault == 0 ? value : least;
    }

    /** Which of the known words, parted by blanks, stands here, from 0 on; NONE is a FAULT. */
    int word(String known) {
      peek();
      start = at;
      while (at < end && bytes[at] >= 'a' && bytes[at] <= 'z') {
        at++;
      }
      int which = 0;
      int from = 0;
      for (int i = 0; i <= known.length(); i++) {
        if (i == known.length() || known.charAt(i) == ' ') {
          if (isWord(known, from, i)) {
            return fault == 0 ? which : NONE;
          }
          which++;
          from = i + 1;
        }
      }
      fail(CANNOT_STAND, start);
      return NONE;
    }

    private boolean isWord(String known, int from, int to) {
      if (to - from != at - start) {
        return false;
      }
      for (int i = 0; i < to - from; i++) {
        if (known.charAt(from + i) != bytes[start + i]) {
          return false;
        }
      }
      return true;
    }
  }

  /** The PIT as it was told. */
  private static final class Pit {
    private static final String CLAUSES = "size seam water shaft crew store price order";
    private static final int MOST_CLAUSES = 60;
    private static final int MOST_SHAFTS = 4;

    int width;
    int height;
    final int[] kinds = new int[CELLS];
    final int[] bars = new int[CELLS];
    final int[] prices = new int[KINDS];
    /** All CELLS there are, as bits 8 Y and X. */
    long all;
    long shafts;
    private int shaftsTold;
    int crew;
    int store;
    int orders;
    final int[] orderShifts = new int[MOST_ORDERS];
    final int[] orderSizes = new int[MOST_ORDERS];
    final int[] notes = new int[MOST_ORDERS * MOST_NOTES];

    Pit() {
      clear();
      tellAll();
    }

    private void clear() {
      width = 6;
      height = 4;
      Arrays.fill(kinds, 0);
      Arrays.fill(bars, 0);
      Arrays.fill(prices, 1);
      shafts = 0;
      shaftsTold = 0;
      crew = 4;
      store = 5;
      orders = 0;
    }

    private void tellAll() {
      all = 0;
      for (int y = 0; y < height; y++) {
        all |= ((1L << width) - 1) << (ACROSS * y);
      }
    }

    void copyFrom(Pit other) {
      width = other.width;
      height = other.height;
      System.arraycopy(other.kinds, 0, kinds, 0, CELLS);
      System.arraycopy(other.bars, 0, bars, 0, CELLS);
      System.arraycopy(other.prices, 0, prices, 0, KINDS);
      all = other.all;
      shafts = other.shafts;
      shaftsTold = other.shaftsTold;
      crew = other.crew;
      store = other.store;
      orders = other.orders;
      System.arraycopy(other.orderShifts, 0, orderShifts, 0, MOST_ORDERS);
      System.arraycopy(other.orderSizes, 0, orderSizes, 0, MOST_ORDERS);
      System.arraycopy(other.notes, 0, notes, 0, MOST_ORDERS * MOST_NOTES);
    }

    void read(Tape tape) {
      clear();
      for (int clause = 0; clause < TAPE_BYTES && tape.more(); clause++) {
        readClause(tape, clause);
        tape.sign(';');
      }
      tellAll();
    }

    private void readClause(Tape tape, int clause) {
      int which = tape.word(CLAUSES);
      if (clause >= MOST_CLAUSES) {
        tape.fail(Tape.TOO_MANY, tape.start);
      }
      if (!tape.good()) {
        return;
      }
      switch (which) {
        case 0:
          readSize(tape, clause);
          break;
        case 1:
          readSeam(tape);
          break;
        case 2:
          readWater(tape);
          break;
        case 3:
          readShaft(tape);
          break;
        case 4:
          crew = tape.number(1, 9);
          break;
        case 5:
          store = tape.number(0, 20);
          break;
        case 6:
          readPrice(tape);
          break;
        default:
          readOrder(tape);
          break;
      }
    }

    private void readSize(Tape tape, int clause) {
      if (clause > 0) {
        tape.fail(Tape.TOO_LATE, tape.start);
        return;
      }
      width = tape.number(1, ACROSS);
      height = tape.number(1, DOWN);
    }

    private void readSeam(Tape tape) {
      int x = tape.number(0, width - 1);
      int y = tape.number(0, height - 1);
      int wide = tape.number(1, width - x);
      int high = tape.number(1, height - y);
      int kind = tape.number(1, MUSIC);
      int many = tape.number(1, 9);
      for (int row = y; row < y + high; row++) {
        for (int column = x; column < x + wide; column++) {
          lay(column, row, kind, many);
        }
      }
    }

    private void readWater(Tape tape) {
      int x = tape.number(0, width - 1);
      int y = tape.number(0, height - 1);
      lay(x, y, WATER, 0);
    }

    private void lay(int x, int y, int kind, int many) {
      int at = ACROSS * y + x;
      if (at >= 0 && at < CELLS) {
        kinds[at] = kind;
        bars[at] = many;
      }
    }

    private void readShaft(Tape tape) {
      if (shaftsTold >= MOST_SHAFTS) {
        tape.fail(Tape.TOO_MANY, tape.start);
        return;
      }
      shaftsTold++;
      shafts |= 1L << tape.number(0, width - 1);
    }

    private void readPrice(Tape tape) {
      int kind = tape.number(1, MUSIC);
      prices[kind] = tape.number(0, 99);
    }

    private void readOrder(Tape tape) {
      if (orders >= MOST_ORDERS) {
        tape.fail(Tape.TOO_MANY, tape.start);
        return;
      }
      orderShifts[orders] = tape.number(1, 60);
      int size = 0;
      while (size <= MOST_NOTES && tape.good() && (size == 0 || tape.isDigitNext())) {
        int kind = tape.number(1, MUSIC);
        if (size < MOST_NOTES) {
          notes[orders * MOST_NOTES + size] = kind;
        } else {
          tape.fail(Tape.TOO_MANY, tape.start);
        }
        size++;
      }
      tape.word("end");
      orderSizes[orders] = Math.min(size, MOST_NOTES);
      orders++;
    }

    int allBars() {
      int sum = 0;
      for (int at = 0; at < CELLS; at++) {
        sum += bars[at];
      }
      return sum;
    }

    /** How many BARS of a KIND an ORDER asks for. */
    int wanted(int order, int kind) {
      int many = 0;
      if (order >= 0 && order < orders) {
        for (int i = 0; i < orderSizes[order]; i++) {
          many += notes[order * MOST_NOTES + i] == kind ? 1 : 0;
        }
      }
      return many;
    }

    int orderWorth(int order) {
      int pence = 0;
      for (int kind = 1; kind <= MUSIC; kind++) {
        pence += wanted(order, kind) * prices[kind];
      }
      return pence;
    }

    /** KIND of the CELL above; 0 without. */
    int kindAbove(int at) {
      return at >= ACROSS && at < CELLS ? kinds[at - ACROSS] : 0;
    }
  }

  /** A LAW, with each operator behind what it joins; numbers stand for themselves. */
  private static final class Law {
    private static final String WORDS = "wide deep over open props bars kind shift least most";
    static final int WIDE = -1;
    static final int DEEP = -2;
    static final int OVER = -3;
    static final int OPEN = -4;
    static final int PROPS = -5;
    static final int BARS = -6;
    static final int KIND = -7;
    static final int SHIFT = -8;
    private static final int LEAST = -9;
    private static final int MOST = -10;
    private static final int PLUS = -11;
    private static final int MINUS = -12;
    private static final int TIMES = -13;
    private static final int PARTS = -14;
    // Each of the 7 levels keeps at most 3 values: a sum, a product, the first of least or most.
    private static final int STACK = 24;

    private final int[] code = new int[SHORT_BYTES];
    private final int[] stack = new int[STACK];
    private int length;

    void beFall() {
      length = 0;
      put(WIDE);
      put(2);
      put(MINUS);
    }

    void beHarm() {
      length = 0;
      put(KIND);
    }

    void copyFrom(Law other) {
      System.arraycopy(other.code, 0, code, 0, SHORT_BYTES);
      length = other.length;
    }

    private void put(int op) {
      if (length < code.length) {
        code[length] = op;
        length++;
      }
    }

    void read(Tape tape) {
      length = 0;
      readSum(tape, 0);
      tape.finish();
    }

    private void readSum(Tape tape, int depth) {
      readProduct(tape, depth);
      for (int i = 0; i < SHORT_BYTES && tape.good(); i++) {
        boolean plus = tape.isNext('+');
        if (!plus && !tape.isNext('-')) {
          return;
        }
        tape.sign(plus ? '+' : '-');
        readProduct(tape, depth);
        put(plus ? PLUS : MINUS);
      }
    }

    private void readProduct(Tape tape, int depth) {
      readUnit(tape, depth);
      for (int i = 0; i < SHORT_BYTES && tape.good(); i++) {
        boolean times = tape.isNext('*');
        if (!times && !tape.isNext('/')) {
          return;
        }
        tape.sign(times ? '*' : '/');
        readUnit(tape, depth);
        put(times ? TIMES : PARTS);
      }
    }

    private void readUnit(Tape tape, int depth) {
      if (tape.isDigitNext()) {
        put(tape.number(0, 999));
      } else if (tape.isNext('(')) {
        readBracket(tape, depth);
      } else {
        int op = -1 - tape.word(WORDS);
        if (!tape.good()) {
          return;
        }
        if (op == LEAST || op == MOST) {
          readPair(tape, depth);
        }
        put(op);
      }
    }

    private void readBracket(Tape tape, int depth) {
      if (depth >= MOST_OPEN) {
        tape.failHere(Tape.TOO_MANY);
        return;
      }
      tape.sign('(');
      readSum(tape, depth + 1);
      tape.sign(')');
    }

    private void readPair(Tape tape, int depth) {
      if (depth >= MOST_OPEN) {
        tape.fail(Tape.TOO_MANY, tape.start);
        return;
      }
      tape.sign('[');
      readSum(tape, depth + 1);
      tape.sign(',');
      readSum(tape, depth + 1);
      tape.sign(']');
    }

    /** Of a CELL of a mine; lung: for its HARM. */
    int value(Mine mine, int at, boolean lung) {
      int top = 0;
      for (int i = 0; i < length; i++) {
        int op = code[i];
        if (op <= LEAST) {
          if (top >= 2) {
            stack[top - 2] = joined(op, stack[top - 2], stack[top - 1]);
            top--;
          }
        } else if (top < STACK) {
          stack[top] = op >= 0 ? op : mine.sight(op, at, lung);
          top++;
        }
      }
      return stack[0];
    }

    private static int joined(int op, int a, int b) {
      switch (op) {
        case LEAST: return a < b ? a : b;
        case MOST: return a > b ? a : b;
        case PLUS: return a + b;
        case MINUS: return a - b;
        case TIMES: return a * b;
        default: return b == 0 ? 0 : a / b;
      }
    }
  }

  /** All that WORK changes, and the rules by which it does. Sets of CELLS are bits 8 Y and X. */
  private static final class Mine {
    static final int IS_OPEN = 1;
    static final int NOT_AT_HAND = 2;
    static final int IS_WET = 3;
    static final int CREW_IS_DONE = 4;
    private static final int FATE_DONE = 1;
    private static final int FATE_FAILED = 2;
    private static final int LAST_SHIFT = 200;
    private static final int MOST_HARM = 99;
    private static final long NOT_FIRST_COLUMN = 0xFEFEFEFEFEFEFEFEL;
    private static final long NOT_LAST_COLUMN = 0x7F7F7F7F7F7F7F7FL;

    private final Pit pit;
    private final Law fallLaw;
    private final Law harmLaw;
    long dugCells;
    long proppedCells;
    private long fallenCells;
    final int[] belt = new int[KINDS];
    final int[] sold = new int[KINDS];
    final int[] gone = new int[KINDS];
    final int[] fates = new int[MOST_ORDERS];
    int shift;
    int digs;
    int props;
    int pence;
    int lungs;
    int wetRow;
    int raised;
    int fell;

    Mine(Pit pit, Law fallLaw, Law harmLaw) {
      this.pit = pit;
      this.fallLaw = fallLaw;
      this.harmLaw = harmLaw;
    }

    void begin() {
      dugCells = 0;
      proppedCells = 0;
      fallenCells = 0;
      Arrays.fill(belt, 0);
      Arrays.fill(sold, 0);
      Arrays.fill(gone, 0);
      Arrays.fill(fates, 0);
      shift = 1;
      digs = 0;
      props = pit.store;
      pence = 0;
      lungs = 0;
      wetRow = pit.height;
      raised = 0;
      fell = 0;
    }

    void copyFrom(Mine other) {
      dugCells = other.dugCells;
      proppedCells = other.proppedCells;
      fallenCells = other.fallenCells;
      System.arraycopy(other.belt, 0, belt, 0, KINDS);
      System.arraycopy(other.sold, 0, sold, 0, KINDS);
      System.arraycopy(other.gone, 0, gone, 0, KINDS);
      System.arraycopy(other.fates, 0, fates, 0, MOST_ORDERS);
      shift = other.shift;
      digs = other.digs;
      props = other.props;
      pence = other.pence;
      lungs = other.lungs;
      wetRow = other.wetRow;
      raised = other.raised;
      fell = other.fell;
    }

    /** Another mine of the same PIT and LAWS, as this one stands. */
    Mine twin() {
      Mine other = new Mine(pit, fallLaw, harmLaw);
      other.copyFrom(this);
      return other;
    }

    /** CELLS beside, above or below those of a set. */
    static long beside(long cells) {
      return ((cells << 1) & NOT_FIRST_COLUMN)
          | ((cells >>> 1) & NOT_LAST_COLUMN)
          | (cells << ACROSS)
          | (cells >>> ACROSS);
    }

    long openCells() {
      return dugCells | proppedCells;
    }

    long handCells() {
      return (beside(openCells()) | pit.shafts) & pit.all;
    }

    private long wetCells() {
      return (-1L << (ACROSS * wetRow)) & pit.all;
    }

    /** CELLS that can be dug, the crew not asked. */
    long ableCells() {
      return handCells() & ~openCells() & ~wetCells();
    }

    private boolean isWhole(int at) {
      return ((dugCells | proppedCells | fallenCells) >>> at & 1) == 0;
    }

    int stateOf(int at) {
      if ((dugCells >>> at & 1) != 0) {
        return 1;
      }
      if ((proppedCells >>> at & 1) != 0) {
        return 2;
      }
      return (fallenCells >>> at & 1) != 0 ? 3 : 0;
    }

    /** BARS that would come on the BELT, were a CELL dug. */
    int barsLeft(int at) {
      return at >= 0 && at < CELLS && isWhole(at) ? pit.bars[at] : 0;
    }

    int penceLeft(int at) {
      int many = barsLeft(at);
      return many > 0 ? many * pit.prices[pit.kinds[at]] : 0;
    }

    int wide(int at) {
      if ((dugCells >>> at & 1) == 0) {
        return 0;
      }
      int first = at - at % ACROSS;
      int many = 1;
      for (int left = at - 1; left >= first && (dugCells >>> left & 1) != 0; left--) {
        many++;
      }
      for (int right = at + 1; right < first + ACROSS && (dugCells >>> right & 1) != 0; right++) {
        many++;
      }
      return many;
    }

    /** What a word of a LAW says of a CELL. */
    int sight(int op, int at, boolean lung) {
      if (at < 0 || at >= CELLS) {
        return 0;
      }
      switch (op) {
        case Law.WIDE: return lung ? 1 : wide(at);
        case Law.DEEP: return at / ACROSS;
        case Law.OVER: return pit.kindAbove(at);
        case Law.OPEN: return at >= ACROSS ? (int) (openCells() >>> (at - ACROSS) & 1) : 0;
        case Law.PROPS: return propsBeside(at);
        case Law.BARS: return pit.bars[at];
        case Law.KIND: return pit.kinds[at];
        default: return shift;
      }
    }

    private int propsBeside(int at) {
      int x = at % ACROSS;
      int left = x > 0 ? (int) (proppedCells >>> (at - 1) & 1) : 0;
      int right = x < ACROSS - 1 ? (int) (proppedCells >>> (at + 1) & 1) : 0;
      return left + right;
    }

    int harmOf(int at) {
      int value = harmLaw.value(this, at, true);
      if (value < 0) {
        return 0;
      }
      return value > MOST_HARM ? MOST_HARM : value;
    }

    boolean wouldFall(int at) {
      return (dugCells >>> at & 1) != 0 && fallLaw.value(this, at, false) > 0;
    }

    /** Of all DUG CELLS, as they stand, those that would FALL. */
    long doomedCells() {
      long doomed = 0;
      for (int at = 0; at < CELLS; at++) {
        if ((dugCells >>> at & 1) != 0 && fallLaw.value(this, at, false) > 0) {
          doomed |= 1L << at;
        }
      }
      return doomed;
    }

    /** Why a CELL can't be dug; 0 if it can. */
    int obstacle(int at) {
      long bit = 1L << at;
      if ((openCells() & bit) != 0) {
        return IS_OPEN;
      }
      if ((handCells() & bit) == 0) {
        return NOT_AT_HAND;
      }
      if ((wetCells() & bit) != 0) {
        return IS_WET;
      }
      return crewIsDone() ? CREW_IS_DONE : 0;
    }

    private boolean crewIsDone() {
      return digs >= pit.crew;
    }

    /** Digs a CELL; that it can be dug was looked at before. */
    void breakOpen(int at) {
      if (at < 0 || at >= CELLS) {
        return;
      }
      boolean whole = isWhole(at);
      int many = barsLeft(at);
      dugCells |= 1L << at;
      fallenCells &= ~(1L << at);
      digs++;
      if (many > 0) {
        belt[pit.kinds[at]] += many;
        raised += many;
        lungs += many * harmOf(at);
      }
      if (whole && pit.kinds[at] == WATER) {
        wetRow = Math.min(wetRow, at / ACROSS);
      }
      long doomed = doomedCells();
      dugCells &= ~doomed;
      fallenCells |= doomed;
      fell += Long.bitCount(doomed);
    }

    boolean propUp(int at) {
      long bit = 1L << at;
      if ((dugCells & ~wetCells() & bit) == 0 || props <= 0) {
        return false;
      }
      dugCells &= ~bit;
      proppedCells |= bit;
      props--;
      return true;
    }

    /** Pumping takes one of the crew's digs of this SHIFT. */
    boolean pumpDry() {
      if (wetRow >= pit.height || crewIsDone()) {
        return false;
      }
      wetRow = pit.height;
      digs++;
      return true;
    }

    boolean sellBars(int kind, int many) {
      if (!isMusic(kind) || belt[kind] < many) {
        return false;
      }
      belt[kind] -= many;
      sold[kind] += many;
      pence += many * pit.prices[kind];
      return true;
    }

    boolean endShift() {
      if (shift >= LAST_SHIFT) {
        return false;
      }
      for (int order = 0; order < pit.orders; order++) {
        if (pit.orderShifts[order] == shift) {
          settle(order);
        }
      }
      shift++;
      digs = 0;
      return true;
    }

    private void settle(int order) {
      if (lacking(order) > 0) {
        fates[order] = FATE_FAILED;
        return;
      }
      for (int kind = 1; kind <= MUSIC; kind++) {
        int many = pit.wanted(order, kind);
        belt[kind] -= many;
        gone[kind] += many;
        pence += many * pit.prices[kind];
      }
      fates[order] = FATE_DONE;
    }

    int lacking(int order) {
      int sum = 0;
      for (int kind = 1; kind <= MUSIC; kind++) {
        sum += Math.max(0, pit.wanted(order, kind) - belt[kind]);
      }
      return sum;
    }

    int wholeBars(int kind) {
      int sum = 0;
      for (int at = 0; at < CELLS; at++) {
        sum += pit.kinds[at] == kind ? barsLeft(at) : 0;
      }
      return sum;
    }

    /** The longest row of WHOLE CELLS of a KIND: how many, or its first CELL. */
    int longestFace(int kind, boolean firstAsked) {
      int most = 0;
      int first = NONE;
      int many = 0;
      for (int at = 0; at < CELLS; at++) {
        many = at % ACROSS == 0 ? 0 : many;
        many = pit.kinds[at] == kind && isWhole(at) ? many + 1 : 0;
        if (many > most) {
          most = many;
          first = at - many + 1;
        }
      }
      return firstAsked ? first : most;
    }

    int richestRow() {
      int best = 0;
      int most = 0;
      for (int y = 0; y < pit.height; y++) {
        int sum = 0;
        for (int x = 0; x < ACROSS; x++) {
          sum += barsLeft(ACROSS * y + x);
        }
        if (sum > most) {
          most = sum;
          best = y;
        }
      }
      return best;
    }

    /** The CELL that the crew of a DECADE would dig next. */
    int richestCell() {
      long able = ableCells();
      int best = NONE;
      int most = -1;
      for (int at = 0; at < CELLS; at++) {
        if ((able >>> at & 1) != 0 && pit.kinds[at] != WATER && barsLeft(at) > most) {
          most = barsLeft(at);
          best = at;
        }
      }
      return best;
    }

    /** The crew of a DECADE digs as long as it may and can. */
    void digShift() {
      int left = pit.crew - digs;
      for (int i = 0; i < left; i++) {
        int at = richestCell();
        if (at == NONE) {
          return;
        }
        breakOpen(at);
      }
    }
  }

  /** A WORK: its STEPS in a row, each again ahead of what it repeats. */
  private static final class Program {
    private static final String WORDS = "dig prop pump shift sell again";
    private static final int DIG = 0;
    private static final int PROP = 1;
    private static final int PUMP = 2;
    private static final int SHIFT = 3;
    private static final int SELL = 4;
    private static final int AGAIN = 5;
    private static final int MOST_BEGUN = 200;
    // The shortest STEP, "pump;", has 5 bytes.
    private static final int MOST_STEPS = SHORT_BYTES / 5;

    private final int[] ops = new int[MOST_STEPS];
    /** The CELL, the KIND, or how often. */
    private final int[] firsts = new int[MOST_STEPS];
    /** How many BARS, or how many STEPS an again holds. */
    private final int[] seconds = new int[MOST_STEPS];
    int length;
    private int begun;
    int done;
    int refused;

    void read(Tape tape, Pit pit) {
      length = 0;
      begun = 0;
      done = 0;
      refused = 0;
      readSteps(tape, pit, 0);
    }

    private void readSteps(Tape tape, Pit pit, int depth) {
      for (int i = 0; i < SHORT_BYTES && tape.more(); i++) {
        if (depth > 0 && tape.isNext(']')) {
          return;
        }
        readStep(tape, pit, depth);
        tape.sign(';');
      }
    }

    private void readStep(Tape tape, Pit pit, int depth) {
      int op = tape.word(WORDS);
      if (!tape.good() || length >= MOST_STEPS) {
        return;
      }
      int step = length;
      length++;
      ops[step] = op;
      switch (op) {
        case DIG:
        case PROP:
          firsts[step] = tape.number(0, pit.width - 1);
          firsts[step] += ACROSS * tape.number(0, pit.height - 1);
          break;
        case SELL:
          firsts[step] = tape.number(1, MUSIC);
          seconds[step] = tape.number(1, 99);
          break;
        case AGAIN:
          readAgain(tape, pit, depth, step);
          break;
        default:
          break;
      }
    }

    private void readAgain(Tape tape, Pit pit, int depth, int step) {
      if (depth >= MOST_OPEN) {
        tape.fail(Tape.TOO_MANY, tape.start);
        return;
      }
      int times = tape.number(0, 20);
      tape.sign('[');
      readSteps(tape, pit, depth + 1);
      tape.sign(']');
      firsts[step] = times;
      seconds[step] = length - step - 1;
    }

    private static void run(Program program, Mine mine, int from, int to, int depth) {
      for (int step = from; step < to && step < MOST_STEPS && program.begun < MOST_BEGUN; step++) {
        program.begun++;
        int first = program.firsts[step];
        int second = program.seconds[step];
        if (program.ops[step] == AGAIN) {
          for (int i = 0; i < first && depth < MOST_OPEN; i++) {
            run(program, mine, step + 1, step + 1 + second, depth + 1);
          }
          step += second;
        } else if (isDone(mine, program.ops[step], first, second)) {
          program.done++;
        } else {
          program.refused++;
        }
      }
    }

    /** Does a STEP; false: it is REFUSED. */
    private static boolean isDone(Mine mine, int op, int first, int second) {
      switch (op) {
        case DIG:
          if (mine.obstacle(first) != 0) {
            return false;
          }
          mine.breakOpen(first);
          return true;
        case PROP:
          return mine.propUp(first);
        case PUMP:
          return mine.pumpDry();
        case SHIFT:
          return mine.endShift();
        default:
          return mine.sellBars(first, second);
      }
    }
  }

  /** The WORKS that can be undone, and the IMAGES; mines are made as they are first needed. */
  private static final class Past {
    private static final int MOST_WORKS = 16;
    private static final int MOST_IMAGES = 3;

    /** How the mine stood ahead of each WORK. */
    private final Mine[] before = new Mine[MOST_WORKS];
    int works;
    private final Mine[] imageMines = new Mine[MOST_IMAGES];
    private final Mine[] imageBefore = new Mine[MOST_IMAGES * MOST_WORKS];
    private final int[] imageWorks = new int[MOST_IMAGES];
    int images;

    void forget() {
      works = 0;
      images = 0;
    }

    boolean isFull() {
      return works >= MOST_WORKS;
    }

    void keep(Mine mine) {
      if (works < MOST_WORKS) {
        save(before, works, mine);
        works++;
      }
    }

    void takeBack(Mine mine) {
      if (works > 0) {
        works--;
        load(before, works, mine);
      }
    }

    boolean takeImage(Mine mine) {
      if (images >= MOST_IMAGES) {
        return false;
      }
      save(imageMines, images, mine);
      for (int i = 0; i < works; i++) {
        save(imageBefore, images * MOST_WORKS + i, before[i]);
      }
      imageWorks[images] = works;
      images++;
      return true;
    }

    void bringBack(Mine mine) {
      if (images <= 0) {
        return;
      }
      images--;
      load(imageMines, images, mine);
      works = imageWorks[images];
      for (int i = 0; i < works; i++) {
        save(before, i, imageBefore[images * MOST_WORKS + i]);
      }
    }

    private static void save(Mine[] row, int i, Mine mine) {
      if (mine == null || i < 0 || i >= row.length) {
        return;
      }
      if (row[i] == null) {
        row[i] = mine.twin();
      } else {
        row[i].copyFrom(mine);
      }
    }

    private static void load(Mine[] row, int i, Mine mine) {
      if (i >= 0 && i < row.length && row[i] != null) {
        mine.copyFrom(row[i]);
      }
    }
  }

  /** What is asked of a mine as it stands: BEST, WAY, HOLD, FILL. */
  private static final class Survey {
    static final int MOST_DIGS = 3;
    private static final int MOST_PROPS = 4;
    private static final int BASE = 64;
    private static final int[] STEPS = {-ACROSS, -1, 1, ACROSS};

    private final Pit pit;
    /** Mines to try in, by how many CELLS are dug in them. */
    private final Mine[] trials = new Mine[MOST_DIGS];
    /** The most BARS on a shortest way to each CELL. */
    private final int[] wayBars = new int[CELLS];
    int bestPence;
    private int bestMany;
    long bestCells;

    Survey(Pit pit, Mine mine) {
      this.pit = pit;
      for (int i = 0; i < MOST_DIGS; i++) {
        trials[i] = mine.twin();
      }
    }

    int risksOf(Mine mine, int at) {
      Mine trial = trials[0];
      trial.copyFrom(mine);
      trial.dugCells |= 1L << at;
      return Long.bitCount(trial.doomedCells());
    }

    void findBest(Mine mine, int most) {
      bestPence = 0;
      bestMany = 0;
      bestCells = 0;
      search(this, mine, 0, most, 0, 0);
    }

    private static void search(
        Survey survey, Mine mine, int many, int most, int pence, long cells) {
      if (many >= most || many >= MOST_DIGS) {
        return;
      }
      long able = mine.ableCells();
      Mine trial = survey.trials[many];
      for (int at = 0; at < CELLS; at++) {
        if ((able >>> at & 1) == 0) {
          continue;
        }
        int sum = pence + mine.penceLeft(at);
        long digits = cells * BASE + at + 1;
        survey.consider(sum, many + 1, digits);
        // What FALLS by the last dig is not asked.
        if (many + 1 < most) {
          trial.copyFrom(mine);
          trial.breakOpen(at);
          search(survey, trial, many + 1, most, sum, digits);
        }
      }
    }

    /** Those with as many digs come rising: of alike ones the first stays. */
    private void consider(int pence, int many, long cells) {
      if (pence > bestPence || (pence == bestPence && many < bestMany)) {
        bestPence = pence;
        bestMany = many;
        bestCells = cells;
      }
    }

    int wayTo(Mine mine, int goal, boolean barsAsked) {
      long bit = 1L << goal;
      if ((mine.openCells() & bit) != 0) {
        return 0;
      }
      long free = ~mine.openCells() & (dryCells() | bit);
      long edge = mine.handCells() & free;
      long seen = edge;
      countBars(mine, edge, 0);
      for (int many = 1; many <= CELLS && edge != 0; many++) {
        if ((edge & bit) != 0) {
          return barsAsked && goal < CELLS ? wayBars[goal] : many;
        }
        long further = Mine.beside(edge) & free & ~seen;
        countBars(mine, further, edge);
        seen |= further;
        edge = further;
      }
      return NONE;
    }

    private long dryCells() {
      long dry = 0;
      for (int at = 0; at < CELLS; at++) {
        dry |= pit.kinds[at] == WATER ? 0 : 1L << at;
      }
      return dry & pit.all;
    }

    /** The most BARS on a way to each of these CELLS, come to from those ahead of them. */
    private void countBars(Mine mine, long cells, long ahead) {
      for (int at = 0; at < CELLS; at++) {
        if ((cells >>> at & 1) == 0) {
          continue;
        }
        long from = Mine.beside(1L << at) & ahead;
        int most = 0;
        for (int i = 0; i < STEPS.length; i++) {
          int other = at + STEPS[i];
          if (other >= 0 && other < CELLS && (from >>> other & 1) != 0) {
            most = Math.max(most, wayBars[other]);
          }
        }
        wayBars[at] = most + mine.barsLeft(at);
      }
    }

    /** What a LAW says of a CELL hangs on PROPS of its own row alone: so rows are held one by one. */
    long propsToHold(Mine mine, boolean cellsAsked) {
      Mine trial = trials[0];
      trial.copyFrom(mine);
      int many = 0;
      long digits = 0;
      for (int y = 0; y < pit.height; y++) {
        int row = propsOfRow(trial, y, MOST_PROPS - many);
        if (row == NONE) {
          return NONE;
        }
        many += Integer.bitCount(row);
        for (int x = 0; x < ACROSS; x++) {
          if ((row >>> x & 1) != 0) {
            digits = digits * BASE + ACROSS * y + x + 1;
          }
        }
      }
      return cellsAsked ? digits : many;
    }

    /** The fewest CELLS that hold a row, as bits, of alike ones the first; NONE: not by so many. */
    private static int propsOfRow(Mine trial, int y, int most) {
      int dug = rowOf(trial.dugCells, y);
      for (int size = 0; size <= most; size++) {
        // With X 0 as the highest bit the first set of a size is the greatest number.
        for (int set = 255; set >= 0; set--) {
          if (Integer.bitCount(set) == size) {
            int row = mirrored(set);
            if ((row & ~dug) == 0 && isHeld(trial, y, row)) {
              return row;
            }
          }
        }
      }
      return NONE;
    }

    private static int mirrored(int row) {
      int other = 0;
      for (int x = 0; x < ACROSS; x++) {
        other |= (row >>> x & 1) << (ACROSS - 1 - x);
      }
      return other;
    }

    /** Whether no CELL of a row would FALL, were these of its DUG ones PROPPED. */
    private static boolean isHeld(Mine trial, int y, int row) {
      long cells = (long) row << (ACROSS * y);
      trial.dugCells &= ~cells;
      trial.proppedCells |= cells;
      boolean held = true;
      for (int x = 0; x < ACROSS && held; x++) {
        held = !trial.wouldFall(ACROSS * y + x);
      }
      trial.dugCells |= cells;
      trial.proppedCells &= ~cells;
      return held;
    }

    int ordersToFill(Mine mine, boolean ordersAsked) {
      int bestSet = 0;
      int most = 0;
      for (int set = 1; set < 1 << pit.orders; set++) {
        int pence = penceOfOrders(mine, set);
        if (pence > most) {
          most = pence;
          bestSet = set;
        }
      }
      return ordersAsked ? bestSet : most;
    }

    /** What a set of ORDERS is worth; NONE: not all are open, or the BELT can't fill them. */
    private int penceOfOrders(Mine mine, int set) {
      int pence = 0;
      for (int order = 0; order < pit.orders; order++) {
        if ((set >>> order & 1) != 0) {
          if (mine.fates[order] != 0) {
            return NONE;
          }
          pence += pit.orderWorth(order);
        }
      }
      for (int kind = 1; kind <= MUSIC; kind++) {
        int many = 0;
        for (int order = 0; order < pit.orders; order++) {
          many += (set >>> order & 1) != 0 ? pit.wanted(order, kind) : 0;
        }
        if (many > mine.belt[kind]) {
          return NONE;
        }
      }
      return pence;
    }
  }

  /** The BOOK, and what is asked of the columns as they were told. */
  private static final class Taps {
    private final Pit pit;
    /** What the BOOK says of each column; NONE without a line. */
    private final int[] said = new int[ACROSS];
    private final int[] newSaid = new int[ACROSS];
    int lines;

    Taps(Pit pit) {
      this.pit = pit;
      Arrays.fill(said, NONE);
    }

    void forget() {
      Arrays.fill(said, NONE);
      lines = 0;
    }

    /** A ninth line is never met: its X is out of range or told twice, the lesser FAULT. */
    void read(Tape tape) {
      Arrays.fill(newSaid, NONE);
      int many = 0;
      for (int i = 0; i < BOOK_BYTES && tape.more(); i++) {
        int x = tape.number(0, ACROSS - 1);
        if (newSaid[x] != NONE) {
          tape.fail(Tape.NO_SUCH_NUMBER, tape.start);
        }
        newSaid[x] = tape.number(0, DOWN);
        tape.sign(';');
        many++;
      }
      if (tape.good()) {
        System.arraycopy(newSaid, 0, said, 0, ACROSS);
        lines = many;
      }
    }

    /** What a tap on a column says, all columns lying s further right. */
    int heard(int x, int s) {
      int from = x - s;
      if (from < 0 || from >= pit.width) {
        return pit.height;
      }
      for (int y = 0; y < pit.height; y++) {
        if (isMusic(pit.kinds[ACROSS * y + from])) {
          return y;
        }
      }
      return pit.height;
    }

    int fitting() {
      int moves = 0;
      for (int s = -MOST_MOVE; s <= MOST_MOVE; s++) {
        if (isRight(s)) {
          moves |= 1 << (s + MOST_MOVE);
        }
      }
      return moves;
    }

    private boolean isRight(int s) {
      for (int x = 0; x < ACROSS; x++) {
        if (said[x] != NONE && (x >= pit.width || heard(x, s) != said[x])) {
          return false;
        }
      }
      return true;
    }

    int nextTap(boolean leftAsked) {
      int moves = fitting();
      int best = NONE;
      int fewest = NONE;
      for (int x = 0; x < pit.width; x++) {
        if (said[x] == NONE) {
          int left = mostLeft(moves, x);
          if (best == NONE || left < fewest) {
            best = x;
            fewest = left;
          }
        }
      }
      return leftAsked ? fewest : best;
    }

    /** How many of the MOVES are left at the worst by a tap on a column. */
    private int mostLeft(int moves, int x) {
      int most = 0;
      for (int answer = 0; answer <= pit.height; answer++) {
        int left = 0;
        for (int s = -MOST_MOVE; s <= MOST_MOVE; s++) {
          if ((moves >>> (s + MOST_MOVE) & 1) != 0 && heard(x, s) == answer) {
            left++;
          }
        }
        most = Math.max(most, left);
      }
      return most;
    }

    int canonOf(int x, int other, boolean manyAsked) {
      int far = 0;
      int most = 0;
      for (int down = 0; down < pit.height; down++) {
        int many = 0;
        for (int y = 0; y + down < pit.height; y++) {
          int kind = pit.kinds[ACROSS * y + other];
          if (isMusic(kind) && kind == pit.kinds[ACROSS * (y + down) + x]) {
            many++;
          }
        }
        if (many > most) {
          most = many;
          far = down;
        }
      }
      return manyAsked ? most : far;
    }
  }

  /** A DECADE, played in a mine of its own. */
  private static final class Decade {
    static final int SIDES = 16;

    private final Mine trial;
    int bars;
    int fell;
    int strikes;
    int lungs;

    Decade(Mine mine) {
      trial = mine.twin();
    }

    void play(Mine mine, int firstSeed, int q, int shifts) {
      trial.copyFrom(mine);
      strikes = 0;
      int seed = firstSeed;
      for (int i = 0; i < shifts; i++) {
        seed = seed * 1103515245 + 12345;
        if ((seed >>> 16 & 32767) % SIDES < q) {
          strikes++;
        } else {
          trial.digShift();
        }
        trial.endShift();
      }
      bars = trial.raised - mine.raised;
      fell = trial.fell - mine.fell;
      lungs = trial.lungs - mine.lungs;
    }
  }

  /** Two owners who sell BARS of one KIND. */
  private static final class Market {
    /** The most that an owner can get, by what the other one brings. */
    private final int[] mostGot = new int[MOST_BROUGHT + 1];
    int rests;
    int first;
    int firstGets;

    void findRests(int price, int n) {
      rests = 0;
      first = NONE;
      firstGets = 0;
      int most = Math.min(n, MOST_BROUGHT);
      for (int other = 0; other <= most; other++) {
        mostGot[other] = 0;
        for (int own = 0; own <= most; own++) {
          mostGot[other] = Math.max(mostGot[other], gets(price, own, other));
        }
      }
      for (int one = 0; one <= most; one++) {
        for (int two = 0; two <= most; two++) {
          if (gets(price, one, two) == mostGot[two] && gets(price, two, one) == mostGot[one]) {
            countRest(price, one, two);
          }
        }
      }
    }

    private void countRest(int price, int one, int two) {
      if (rests == 0) {
        first = 100 * one + two;
        firstGets = gets(price, one, two);
      }
      rests++;
    }

    private static int gets(int price, int own, int other) {
      return own * Math.max(0, price - own - other);
    }
  }
}
