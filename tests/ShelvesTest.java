/** Promises 29 to 36: shelves. */
public final class ShelvesTest {
  private static final long NO_SHELF = Long.MIN_VALUE + 1;
  private static final long NO_ROW = Long.MIN_VALUE + 2;

  public static void main(String[] args) {
    keeping();
    rows();
    putting();
    elements();
    copying();
    coming();
    fees();
    failures();
    Check.end("ShelvesTest");
  }

  private static void keeping() {
    TakesAPage x = new TakesAPage();
    for (int d = 0; d < 8; d++) {
      Check.due("a reader", x.keep(d, 1, d, 9 - d), 0);
    }
    for (int d = 0; d < 6; d++) {
      Check.due("comes", x.comes(d), d);
      Check.due("his kind", x.reader(d, 0), d);
      Check.due("his figure", x.reader(d, 1), 9 - d);
    }
    Check.due("nothing", x.keep(7, 0, 99, -99), 0);
    Check.due("nothing is held", x.fee(7), -11);
    Check.due("nothing for a row", x.row(7, 0, 3), 0);
    Check.due("nothing for a row", x.keep(7, 0, 0, 0), 0);
    Check.due("nothing is held", x.put(7, 0, 0), -11);
    Check.due("shelf 8", x.keep(8, 0, 0, 0), -1);
    Check.due("shelf -1", x.keep(-1, 1, 0, 0), -1);
    Check.due("what 2", x.keep(0, 2, 0, 0), -1);
    Check.due("what -1", x.keep(0, -1, 0, 0), -1);
    Check.due("kind 8", x.keep(0, 1, 8, 0), -1);
    Check.due("kind -1", x.keep(0, 1, -1, 0), -1);
    Check.due("figure 10", x.keep(0, 1, 0, 10), -1);
    Check.due("figure -1", x.keep(0, 1, 0, -1), -1);
    Check.due("he is still there", x.fee(0), 3);
    Check.due("in place of a row", x.row(0, 0, 1), 0);
    Check.due("in place of a row", x.keep(0, 1, 1, 2), 0);
    Check.due("the row is gone", Check.element(x, 0, 0), NO_ROW);
  }

  private static void rows() {
    TakesAPage x = new TakesAPage();
    for (int sort = 0; sort < 3; sort++) {
      Check.due("100", x.row(1, sort, 100), 0);
      Check.due("0 at first", Check.element(x, 1, 99), 0);
      Check.due("last", x.put(1, 99, 7), 0);
      Check.due("behind the last", x.put(1, 100, 7), -13);
      Check.due("anew", x.row(1, sort, 100), 0);
      Check.due("0 again", Check.element(x, 1, 99), 0);
    }
    Check.due("smaller", x.row(1, 0, 2), 0);
    Check.due("its end", Check.element(x, 1, 2), NO_ROW);
    Check.due("empty", x.row(1, 0, 0), 0);
    Check.due("no place", x.put(1, 0, 0), -13);
    Check.due("empty is a row", x.fee(1), -12);
    Check.due("in place of a reader", x.keep(2, 1, 0, 0) + x.row(2, 0, 1), 0);
    Check.due("a row", Check.element(x, 2, 0), 0);
    Check.due("101", x.row(1, 0, 101), -1);
    Check.due("-1", x.row(1, 0, -1), -14);
    Check.due("far below", x.row(1, 0, Integer.MIN_VALUE), -14);
    Check.due("sort 3", x.row(1, 3, 1), -1);
    Check.due("sort -1", x.row(1, -1, 1), -1);
    Check.due("sort goes ahead", x.row(1, 3, -1), -1);
    Check.due("shelf 8", x.row(8, 0, 1), -1);
    Check.due("shelf -1 goes ahead", x.row(-1, 0, -1), -1);
    Check.due("it is still empty", x.put(1, 0, 0), -13);
  }

  private static void stays(TakesAPage x, int sort, int v, long want) {
    Check.row(x, 6, sort, v);
    Check.due("sort " + sort + " of " + v, Check.element(x, 6, 0), want);
  }

  private static void putting() {
    TakesAPage x = new TakesAPage();
    stays(x, 0, 127, 127);
    stays(x, 0, 128, -128);
    stays(x, 0, 255, -1);
    stays(x, 0, 256, 0);
    stays(x, 0, -129, 127);
    stays(x, 1, 32767, 32767);
    stays(x, 1, 32768, -32768);
    stays(x, 1, 65536 + 5, 5);
    stays(x, 1, -1, -1);
    stays(x, 2, Integer.MAX_VALUE, Integer.MAX_VALUE);
    stays(x, 2, Integer.MIN_VALUE, Integer.MIN_VALUE);
    Check.due("place -1", x.put(6, -1, 0), -13);
    Check.due("place 1", x.put(6, 1, 0), -13);
    Check.due("shelf 8", x.put(8, 0, 0), -1);
    Check.due("shelf -1", x.put(-1, -1, 0), -1);
    Check.due("nothing", x.put(0, -1, 0), -11);
    x.keep(0, 1, 0, 0);
    Check.due("a reader", x.put(0, -1, 0), -12);
  }

  private static void elements() {
    TakesAPage x = new TakesAPage();
    Check.row(x, 0, 1, 5, -6);
    Check.due("first", Check.element(x, 0, 0), 5);
    Check.due("last", Check.element(x, 0, 1), -6);
    Check.due("behind", Check.element(x, 0, 2), NO_ROW);
    Check.due("ahead", Check.element(x, 0, -1), NO_ROW);
    Check.due("far", Check.element(x, 0, Integer.MAX_VALUE), NO_ROW);
    Check.due("nothing", Check.element(x, 1, 0), NO_ROW);
    x.keep(1, 1, 0, 0);
    Check.due("a reader", Check.element(x, 1, 0), NO_ROW);
    Check.due("shelf 8", Check.element(x, 8, 0), NO_SHELF);
    Check.due("shelf -1 goes ahead", Check.element(x, -1, -1), NO_SHELF);
  }

  private static void copying() {
    TakesAPage x = new TakesAPage();
    Check.row(x, 0, 1, 1, 2, 3, 4, 5);
    Check.row(x, 1, 1, 11, 12, 13);
    Check.due("two", x.copy(0, 3, 1, 1, 2), 2);
    Check.due("first stays", Check.element(x, 1, 0), 11);
    Check.due("copied", Check.element(x, 1, 1), 4);
    Check.due("copied", Check.element(x, 1, 2), 5);
    Check.due("read stays", Check.element(x, 0, 3), 4);
    Check.due("over itself, on", x.copy(0, 0, 0, 1, 4), 4);
    Check.due("over itself", Check.element(x, 0, 4), 4);
    Check.due("over itself", Check.element(x, 0, 1), 1);
    Check.due("over itself, back", x.copy(0, 1, 0, 0, 4), 4);
    Check.due("over itself", Check.element(x, 0, 0), 1);
    Check.due("over itself", Check.element(x, 0, 3), 4);
    Check.due("none", x.copy(0, 5, 1, 3, 0), 0);
    Check.due("all", x.copy(1, 0, 0, 2, 3), 3);
    refusedCopies(x);
  }

  private static void refusedCopies(TakesAPage x) {
    Check.due("from behind", x.copy(0, 6, 1, 0, 0), -13);
    Check.due("to behind", x.copy(0, 0, 1, 4, 0), -13);
    Check.due("from -1", x.copy(0, -1, 1, 0, 1), -13);
    Check.due("to -1", x.copy(0, 0, 1, -1, 1), -13);
    Check.due("n -1", x.copy(0, 0, 1, 0, -1), -13);
    Check.due("n too many to come from", x.copy(1, 0, 0, 0, 4), -13);
    Check.due("n too many to go to", x.copy(0, 0, 1, 0, 4), -13);
    Check.due("far", x.copy(0, Integer.MAX_VALUE, 1, 0, 1), -13);
    Check.due("far", x.copy(0, 0, 1, Integer.MAX_VALUE, Integer.MAX_VALUE), -13);
    Check.due("far below", x.copy(0, Integer.MIN_VALUE, 1, 0, Integer.MIN_VALUE), -13);
    Check.row(x, 2, 0, 1, 2);
    Check.due("unlike sorts", x.copy(0, 0, 2, 0, 1), -12);
    Check.due("unlike sorts go ahead of places", x.copy(0, 9, 2, 0, -1), -12);
    x.keep(3, 1, 0, 0);
    Check.due("from a reader", x.copy(3, 0, 0, 0, 1), -12);
    Check.due("to a reader", x.copy(0, 0, 3, 0, 1), -12);
    Check.row(x, 3, 1, 5);
    x.keep(3, 1, 0, 0);
    Check.due("from a reader where a row was", x.copy(3, 0, 0, 0, 0), -12);
    Check.due("to a reader where a row was", x.copy(0, 0, 3, 0, 0), -12);
    Check.due("from nothing", x.copy(4, 0, 0, 0, 1), -11);
    Check.due("to nothing", x.copy(0, 0, 4, 0, 1), -11);
    Check.due("nothing goes ahead of a reader", x.copy(3, 0, 4, 0, 1), -11);
    Check.due("nothing goes ahead of a reader", x.copy(4, 0, 3, 0, 1), -11);
    Check.due("shelf 8 to", x.copy(4, 0, 8, 0, 1), -1);
    Check.due("shelf -1 from", x.copy(-1, 0, 4, 0, 1), -1);
  }

  private static void coming() {
    TakesAPage x = new TakesAPage();
    x.keep(2, 1, 5, 8);
    for (int k = 0; k < 6; k++) {
      Check.due("comes", x.comes(2), k);
    }
    Check.due("no room", x.comes(2), -2);
    Check.due("as he was told", x.reader(5, 0) * 10 + x.reader(5, 1), 58);
    Check.due("he stays on the shelf", x.fee(2), 8);
    Check.due("how many", x.count(1), 6);
    Check.due("shelf 8", x.comes(8), -1);
    Check.due("shelf -1", x.comes(-1), -1);
    Check.due("nothing", x.comes(3), -11);
    x.row(3, 0, 1);
    Check.due("a row", x.comes(3), -12);
  }

  private static void fees() {
    TakesAPage x = new TakesAPage();
    int[] ofNone = {3, 3, 2, 6, 3, 8, 3, 6};
    int[] ofFour = {3, 7, 2, 14, 15, 8, -1, 6};
    for (int kind = 0; kind < 8; kind++) {
      x.keep(0, 1, kind, 0);
      Check.due("fee of " + kind, x.fee(0), ofNone[kind]);
      x.keep(0, 1, kind, 4);
      Check.due("fee of " + kind + " with 4", x.fee(0), ofFour[kind]);
    }
    Check.due("shelf 8", x.fee(8), -1);
    Check.due("shelf -1", x.fee(-1), -1);
    Check.due("nothing", x.fee(3), -11);
    x.row(3, 2, 1);
    Check.due("a row", x.fee(3), -12);
  }

  private static void failures() {
    TakesAPage x = new TakesAPage();
    int[] ofFour = {4, 4, 4, 104, 4, 4, -15, 206};
    for (int kind = 0; kind < 8; kind++) {
      x.keep(0, 1, kind, 0);
      Check.due("failure of " + kind, x.toss(0), -15);
      x.keep(0, 1, kind, 4);
      Check.due("failure of " + kind + " with 4", x.toss(0), ofFour[kind]);
      Check.due("and again", x.toss(0), ofFour[kind]);
    }
    Check.due("shelf 8", x.toss(8), -1);
    Check.due("shelf -1", x.toss(-1), -1);
    Check.due("nothing", x.toss(3), -11);
    x.row(3, 0, 1);
    Check.due("a row", x.toss(3), -12);
  }
}
