import java.util.function.IntBinaryOperator;

/**
 * Each call of the face with each of its arguments within, at and beyond its bounds, in some
 * states from empty to full, held against the model; behind each call that may change something,
 * all is asked again, so that what a refused call changes shows.
 */
public final class GridTest {
  private static final int[] SHELVES = {Integer.MIN_VALUE, -1, 0, 1, 2, 3, 4, 5, 6, 7, 8, Integer.MAX_VALUE};
  private static final int[] NUMBERS = {Integer.MIN_VALUE, -4, -1, 0, 1, 2, 3, 4, 5, 6, Integer.MAX_VALUE};
  private static final int[] PAGES = {Integer.MIN_VALUE, -1, 0, 1, 2, 6, 7, 8, Integer.MAX_VALUE};
  private static final int[] WHATS = {Integer.MIN_VALUE, -1, 0, 1, 2, 3, 4, 5, Integer.MAX_VALUE};
  private static final int[] KINDS = {Integer.MIN_VALUE, -1, 0, 3, 7, 8, Integer.MAX_VALUE};
  private static final int[] FIGURES = {Integer.MIN_VALUE, -1, 0, 1, 9, 10, Integer.MAX_VALUE};
  private static final int[] DAYS = {Integer.MIN_VALUE, -1, 0, 1, 2, 9, 39, 40, 41, Integer.MAX_VALUE};
  private static final int[] PLACES = {Integer.MIN_VALUE, -1, 0, 1, 3, 4, 99, 100, Integer.MAX_VALUE};
  private static final int[] SIZES = {Integer.MIN_VALUE, -1, 0, 1, 4, 99, 100, 101, Integer.MAX_VALUE};
  private static final int MOST_CALLS = 512;

  private static final String[] TOWNS = {
    "", "b3;", "r39;", "b3;b3;b2;r00;r13;r61;x00;x11;o02;",
    "b8;b8;b1;b8;r74;r69;r58;r47;r39;r00;n010;n073;n110;o20;x00;x30;x40;",
    "b1;b2;r40;r50;o00;x00;x01;"
  };

  private static TakesAPage x;
  private static Model m;
  private static int state;
  private static int calls;

  public static void main(String[] args) {
    for (state = 0; state < TOWNS.length; state++) {
      asking();
      askingOfShelves();
      changing();
      changingShelves();
    }
    Check.end("GridTest");
  }

  private static void due(String call, long got, long want) {
    calls++;
    Check.due("state " + state + ": " + call, got, want);
  }

  private static void row(int d, int sort, int... elements) {
    due("row", x.row(d, sort, elements.length), m.row(d, sort, elements.length));
    for (int i = 0; i < elements.length; i++) {
      due("put", x.put(d, i, elements[i]), m.put(d, i, elements[i]));
    }
  }

  /** SHELF 0: a text; 1 READERS, READINGS; 2 not as told; 3 shorts; 4 ints; 5 a READER; 7 nothing. */
  private static void begin() {
    x = new TakesAPage();
    m = new Model();
    calls = 0;
    int[] text = TOWNS[state].chars().toArray();
    row(6, 0, text);
    due("town", x.town(6), m.town(6));
    if (state % 2 == 1) {
      due("image", x.image(), m.image());
      due("read", x.read(0, 0), m.read(0, 0));
    }
    row(0, 0, 'r', '7', '9', ';', 'x', '0', '0', ';', 'o', '0', '0', ';');
    row(1, 0, 0, 0, 0, 1);
    row(2, 0, 0, 0, 5, -1, 2, 3, 1, 9);
    row(3, 1, 0, 0, 3, 300);
    row(4, 2, 0, 0, 3, 70000);
    due("keep", x.keep(5, 1, 3, 9), m.keep(5, 1, 3, 9));
  }

  private static void room(int more) {
    if (calls + more > MOST_CALLS) {
      begin();
    }
  }

  private interface Three {
    long of(int a, int b, int c);
  }

  private static void each(String call, int[] as, IntBinaryOperator got, IntBinaryOperator want) {
    for (int a : as) {
      room(1);
      due(call + " " + a, got.applyAsInt(a, 0), want.applyAsInt(a, 0));
    }
  }

  private static void each(String call, int[] as, int[] bs, IntBinaryOperator got, IntBinaryOperator want) {
    for (int a : as) {
      for (int b : bs) {
        room(1);
        due(call + " " + a + " " + b, got.applyAsInt(a, b), want.applyAsInt(a, b));
      }
    }
  }

  private static void each(String call, int[] as, int[] bs, int[] cs, Three got, Three want) {
    for (int a : as) {
      for (int b : bs) {
        for (int c : cs) {
          room(1);
          due(call + " " + a + " " + b + " " + c, got.of(a, b, c), want.of(a, b, c));
        }
      }
    }
  }

  private static void asking() {
    begin();
    each("count", WHATS, (a, b) -> x.count(a), (a, b) -> m.count(a));
    each("book", NUMBERS, WHATS, (a, b) -> x.book(a, b), (a, b) -> m.book(a, b));
    each("page", NUMBERS, PAGES, WHATS, (a, b, c) -> x.page(a, b, c), (a, b, c) -> m.page(a, b, c));
    each("reader", NUMBERS, WHATS, (a, b) -> x.reader(a, b), (a, b) -> m.reader(a, b));
    each("understands", NUMBERS, (a, b) -> x.understands(a), (a, b) -> m.understands(a));
    each("worth", NUMBERS, NUMBERS, (a, b) -> x.worth(a, b), (a, b) -> m.worth(a, b));
    each("takes", NUMBERS, NUMBERS, (a, b) -> x.takes(a, b), (a, b) -> m.takes(a, b));
    each("lasts", NUMBERS, NUMBERS, (a, b) -> x.lasts(a, b), (a, b) -> m.lasts(a, b));
    each("has", NUMBERS, NUMBERS, (a, b) -> x.has(a, b), (a, b) -> m.has(a, b));
    each("together", NUMBERS, (a, b) -> x.together(a), (a, b) -> m.together(a));
    each("copies", NUMBERS, NUMBERS, (a, b) -> x.copies(a, b), (a, b) -> m.copies(a, b));
    each("turns", NUMBERS, NUMBERS, NUMBERS, (a, b, c) -> x.turns(a, b, c), (a, b, c) -> m.turns(a, b, c));
    each("price", NUMBERS, NUMBERS, PAGES, (a, b, c) -> x.price(a, b, c), (a, b, c) -> m.price(a, b, c));
    each("howMany", NUMBERS, NUMBERS, DAYS,
        (a, b, c) -> x.howMany(a, b, c), (a, b, c) -> m.howMany(a, b, c));
    each("seeded", DAYS, PLACES, (a, b) -> x.seeded(a, b), (a, b) -> m.seeded(a, b));
  }

  private static void askingOfShelves() {
    begin();
    each("run", SHELVES, WHATS, (a, b) -> x.run(a, b), (a, b) -> m.run(a, b));
    each("most", NUMBERS, SHELVES, WHATS, (a, b, c) -> x.most(a, b, c), (a, b, c) -> m.most(a, b, c));
    each("spoils", NUMBERS, SHELVES, WHATS,
        (a, b, c) -> x.spoils(a, b, c), (a, b, c) -> m.spoils(a, b, c));
    each("gaps", NUMBERS, SHELVES, WHATS, (a, b, c) -> x.gaps(a, b, c), (a, b, c) -> m.gaps(a, b, c));
    each("law", SHELVES, KINDS, FIGURES, (a, b, c) -> x.law(a, b, c), (a, b, c) -> m.law(a, b, c));
    each("without", NUMBERS, SHELVES, (a, b) -> x.without(a, b), (a, b) -> m.without(a, b));
    each("judge", SHELVES, (a, b) -> x.judge(a), (a, b) -> m.judge(a));
    each("element", SHELVES, PLACES, new int[] {0},
        (a, b, c) -> Check.element(x, a, b), (a, b, c) -> m.element(a, b));
    each("fee", SHELVES, (a, b) -> x.fee(a), (a, b) -> m.fee(a));
    each("toss", SHELVES, (a, b) -> x.toss(a), (a, b) -> m.toss(a));
  }

  private static void changing() {
    for (int a : NUMBERS) {
      for (int b : NUMBERS) {
        begin();
        due("read " + a + " " + b, x.read(a, b), m.read(a, b));
        alike();
      }
      begin();
      due("brings " + a, x.brings(a), m.brings(a));
      alike();
    }
    for (int d : SHELVES) {
      begin();
      due("town " + d, x.town(d), m.town(d));
      alike();
      begin();
      due("comes " + d, x.comes(d), m.comes(d));
      alike();
    }
    begin();
    due("restore", x.restore(), m.restore());
    alike();
    begin();
    due("image", x.image(), m.image());
    due("read", x.read(1, 1), m.read(1, 1));
    alike();
  }

  private static void changingShelves() {
    for (int d : SHELVES) {
      for (int a : WHATS) {
        for (int b : KINDS) {
          keepAndRow(d, a, b);
        }
        for (int i : PLACES) {
          begin();
          due("put " + d + " " + i + " " + a, x.put(d, i, a * 77), m.put(d, i, a * 77));
          alike();
        }
      }
      for (int e : SHELVES) {
        copies(d, e);
      }
    }
  }

  private static void keepAndRow(int d, int a, int b) {
    for (int figure : FIGURES) {
      begin();
      due("keep " + d + " " + a + " " + b + " " + figure, x.keep(d, a, b, figure), m.keep(d, a, b, figure));
      alike();
    }
    for (int size : SIZES) {
      if (b == KINDS[0]) {
        begin();
        due("row " + d + " " + a + " " + size, x.row(d, a, size), m.row(d, a, size));
        alike();
      }
    }
  }

  private static void copies(int d, int e) {
    int[] some = {Integer.MIN_VALUE, -1, 0, 1, 4, 5, Integer.MAX_VALUE};
    for (int i : some) {
      for (int j : some) {
        for (int n : some) {
          room(150);
          int got = x.copy(d, i, e, j, n);
          due("copy " + d + " " + i + " " + e + " " + j + " " + n, got, m.copy(d, i, e, j, n));
          if (got >= 0) {
            rowsAlike();
          }
        }
      }
    }
    room(150);
    rowsAlike();
  }

  private static void rowsAlike() {
    for (int d = 0; d < 8; d++) {
      for (int i = 0; i <= 12; i++) {
        due("element", Check.element(x, d, i), m.element(d, i));
      }
    }
  }

  /** All that can be asked; THE IMAGE at last. */
  private static void alike() {
    rowsAlike();
    for (int d = 0; d < 8; d++) {
      due("fee", x.fee(d), m.fee(d));
      due("toss", x.toss(d), m.toss(d));
      due("the last place", Check.element(x, d, 99), m.element(d, 99));
      due("its SORT", x.copy(d, 0, 1, 0, 0), m.copy(d, 0, 1, 0, 0));
      due("its SORT", x.copy(d, 0, 3, 0, 0), m.copy(d, 0, 3, 0, 0));
    }
    townsAlike();
    due("restore", x.restore(), m.restore());
    townsAlike();
    Check.due("at most 512 calls", calls <= MOST_CALLS ? 0 : calls, 0);
  }

  private static void townsAlike() {
    for (int what = 0; what < 5; what++) {
      due("count", x.count(what), m.count(what));
    }
    for (int reader = 0; reader < 6; reader++) {
      due("reader", x.reader(reader, 0) * 10 + x.reader(reader, 1),
          m.reader(reader, 0) * 10 + m.reader(reader, 1));
      calls++;
    }
    for (int book = 0; book < 4; book++) {
      due("IN", x.book(book, 2), m.book(book, 2));
      for (int page = 0; page < Math.max(0, m.book(book, 0)); page++) {
        due("NEEDS", x.page(book, page, 1), m.page(book, page, 1));
        due("HOLDS", x.page(book, page, 2), m.page(book, page, 2));
      }
    }
  }
}
