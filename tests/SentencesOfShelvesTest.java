import java.io.IOException;

/** Shelves, their rows, readers and refusals, sentence by sentence; promises 29 to 36. */
public final class SentencesOfShelvesTest {
  private static final long NO_SHELF = Long.MIN_VALUE + 1;
  private static final long NO_ROW = Long.MIN_VALUE + 2;

  public static void main(String[] args) throws IOException {
    places();
    refusals();
    rowsAndSorts();
    lowestBits();
    rowsOfReaders();
    rowsOfReadings();
    whatStays();
    promiseKeep();
    promiseRow();
    promisePut();
    promiseElement();
    promiseCopy();
    promiseComes();
    promiseFee();
    promiseToss();
    Sentence.end("SentencesOfShelvesTest");
  }

  private static void places() {
    Sentence.says("SHELVES 0 .. 7 each hold nothing (at first), a READER, a ROW.", () -> {
      TakesAPage x = new TakesAPage();
      for (int d = 0; d < 8; d++) {
        Check.due("fee of nothing", x.fee(d), -11);
        Check.due("put to nothing", x.put(d, 0, 0), -11);
        Check.due("a READER", x.keep(d, 1, 1, d), 0);
      }
      for (int d = 0; d < 8; d++) {
        Check.due("each its own", x.fee(d), 3 + d);
        Check.due("put to a READER", x.put(d, 0, 0), -12);
        Check.due("a ROW in his place", x.row(d, 2, d), 0);
      }
      for (int d = 0; d < 8; d++) {
        Check.due("fee of a ROW", x.fee(d), -12);
        Check.due("each its own size", Check.element(x, d, d), NO_ROW);
        Check.due("its last", d == 0 ? 0 : Check.element(x, d, d - 1), 0);
        Check.due("nothing in its place", x.keep(d, 0, 0, 0), 0);
        Check.due("nothing", x.fee(d), -11);
      }
      for (int d : Sentence.outside(0, 7)) {
        Check.due("no SHELF " + d, x.keep(d, 0, 0, 0), -1);
        Check.due("no SHELF " + d, x.row(d, 0, 0), -1);
      }
    });
  }

  private static void refusals() {
    Sentence.says("-11 nothing is held where something is wanted; -12 it is of another kind; "
        + "-13 a place that isn't there (a number or a size that isn't as told, too); "
        + "-14 a size below 0; -15 a FAILURE that is none.", () -> {
      TakesAPage x = Check.made("b1;r00;");
      Check.due("nothing, a text is wanted", x.town(5), -11);
      Check.due("nothing, a ROW is wanted", x.judge(5), -11);
      Check.due("nothing, a READER is wanted", x.toss(5), -11);
      Check.due("a ROW, a READER is wanted", x.toss(0), -12);
      x.keep(5, 1, 6, 0);
      Check.due("a READER, a ROW is wanted", x.judge(5), -12);
      x.row(4, 1, 2);
      Check.due("shorts, bytes are wanted", x.run(4, 0), -12);
      Check.due("a place", x.put(4, 2, 0), -13);
      x.row(4, 0, 3);
      Check.due("a size", x.run(4, 0), -13);
      Check.row(x, 4, 0, 0, 1);
      Check.due("a number", x.run(4, 0), -13);
      Check.due("a size below 0", x.row(4, 0, -1), -14);
      Check.due("a FAILURE", x.toss(5), -15);
    });
  }

  private static void rowsAndSorts() {
    Sentence.says("A ROW has a SORT (0 bytes, 1 shorts, 2 ints) and 0 .. 100 elements, 0 at first", () -> {
      for (int sort = 0; sort < 3; sort++) {
        TakesAPage x = new TakesAPage();
        Check.due("none", x.row(0, sort, 0), 0);
        Check.due("of none the first", Check.element(x, 0, 0), NO_ROW);
        Check.due("one", x.row(1, sort, 1), 0);
        Check.due("of one the first", Check.element(x, 1, 0), 0);
        Check.due("of one the second", Check.element(x, 1, 1), NO_ROW);
        Check.due("a hundred", x.row(2, sort, 100), 0);
        for (int i = 0; i < 100; i++) {
          Check.due("0 at first", Check.element(x, 2, i), 0);
          Check.due("put", x.put(2, i, i + 1), 0);
        }
        Check.due("of a hundred the last", Check.element(x, 2, 99), 100);
        Check.due("behind it", Check.element(x, 2, 100), NO_ROW);
        Check.due("anew", x.row(2, sort, 50), 0);
        Check.due("anew and greater", x.row(2, sort, 100), 0);
        Check.due("0 again", Check.element(x, 2, 0), 0);
        Check.due("0 again", Check.element(x, 2, 49), 0);
        Check.due("0 again", Check.element(x, 2, 99), 0);
        Check.due("a hundred and one", x.row(2, sort, 101), -1);
      }
      TakesAPage x = new TakesAPage();
      Check.due("SORT -1", x.row(0, -1, 1), -1);
      Check.due("SORT 3", x.row(0, 3, 1), -1);
    });
  }

  private static void keeps(int sort, int v, long want) {
    TakesAPage x = new TakesAPage();
    Check.row(x, 5, sort, 77, v, 77);
    Check.due(v + " in SORT " + sort, Check.element(x, 5, 1), want);
    Check.due("beside it", Check.element(x, 5, 0) + Check.element(x, 5, 2), 154);
  }

  private static void lowestBits() {
    Sentence.says("what is put in keeps its lowest bits", () -> {
      int[] odd = {0, 1, 127, 128, 129, 255, 256, 257, 32767, 32768, 32769, 65535, 65536, 65537,
        1 << 23, 1 << 24, Integer.MAX_VALUE};
      for (int v : odd) {
        keeps(0, v, (v & 255) >= 128 ? (v & 255) - 256 : v & 255);
        keeps(1, v, (v & 65535) >= 32768 ? (v & 65535) - 65536 : v & 65535);
        keeps(2, v, v);
        keeps(2, -v - 1, -v - 1L);
      }
      keeps(0, -1, -1);
      keeps(0, -128, -128);
      keeps(0, -129, 127);
      keeps(0, Integer.MIN_VALUE, 0);
      keeps(1, -1, -1);
      keeps(1, -32768, -32768);
      keeps(1, -32769, 32767);
      keeps(1, Integer.MIN_VALUE, 0);
      keeps(2, Integer.MIN_VALUE, Integer.MIN_VALUE);
    });
  }

  private static void readers(TakesAPage x, int want, int... readers) {
    Check.row(x, 6, 0, readers);
    Check.due("most by " + readers.length, Math.min(0, x.most(0, 6, 0)), want);
    Check.due("spoils by " + readers.length, Math.min(0, x.spoils(0, 6, 1)), want);
    Check.due("gaps by " + readers.length, Math.min(0, x.gaps(0, 6, 0)), want);
  }

  private static void refusedSorts(TakesAPage x, boolean ofReaders) {
    for (int sort = 1; sort < 3; sort++) {
      for (int size = 0; size <= 100; size += 50) {
        x.row(6, sort, size);
        Check.due("a ROW of " + sort, ofReaders ? x.most(0, 6, 0) : x.run(6, 0), -12);
        Check.due("a ROW of " + sort, ofReaders ? x.spoils(0, 6, 0) : x.law(6, 0, 0), -12);
        Check.due("a ROW of " + sort, ofReaders ? x.gaps(0, 6, 0) : x.without(0, 6), -12);
      }
    }
    x.keep(6, 1, 0, 0);
    Check.due("a READER", ofReaders ? x.most(0, 6, 0) : x.run(6, 0), -12);
    Check.due("a READER", ofReaders ? x.spoils(0, 6, 0) : x.law(6, 0, 0), -12);
    Check.due("a READER", ofReaders ? x.gaps(0, 6, 0) : x.without(0, 6), -12);
    x.keep(6, 0, 0, 0);
    Check.due("nothing", ofReaders ? x.most(0, 6, 0) : x.run(6, 0), -11);
    Check.due("nothing", ofReaders ? x.spoils(0, 6, 0) : x.law(6, 0, 0), -11);
    Check.due("nothing", ofReaders ? x.gaps(0, 6, 0) : x.without(0, 6), -11);
  }

  private static void rowsOfReaders() {
    Sentence.says("A ROW of READERS (bytes, numbers of READERS; 6 at most)", () -> {
      TakesAPage x = Check.made("b8;r00;r10;");
      readers(x, 0);
      readers(x, 0, 0);
      readers(x, 0, 1, 1, 1, 1, 1, 1);
      readers(x, -13, 1, 1, 1, 1, 1, 1, 1);
      readers(x, -13, 2);
      readers(x, -13, 0, 0, 0, 0, 0, 2);
      readers(x, -13, -1, 0);
      readers(x, -13, 127);
      readers(x, 0, 256, 257);
      x.row(6, 0, 100);
      Check.due("a hundred", x.most(0, 6, 0), -13);
      refusedSorts(x, true);
      x = Check.made("b1;");
      readers(x, 0);
      readers(x, -13, 0);
      x = Check.made("b1;r00;r00;r00;r00;r00;r00;");
      readers(x, 0, 0, 1, 2, 3, 4, 5);
      readers(x, -13, 6);
    });
  }

  private static void readings(TakesAPage x, int want, int... readings) {
    Check.row(x, 6, 0, readings);
    Check.due("run by " + readings.length, Math.min(0, x.run(6, 0)), want);
    Check.due("law by " + readings.length, Math.min(0, x.law(6, 0, 0)), want);
    Check.due("without by " + readings.length, Math.min(0, x.without(0, 6)), want);
  }

  private static void rowsOfReadings() {
    Sentence.says("a ROW of READINGS (bytes, by twos a READER, a BOOK; 12 READINGS at most)", () -> {
      TakesAPage x = Check.made("b8;b1;b1;r00;r10;");
      readings(x, 0);
      readings(x, -13, 0);
      readings(x, 0, 1, 2);
      readings(x, -13, 2, 1);
      readings(x, -13, 1, 3);
      readings(x, -13, -1, 0);
      readings(x, -13, 0, -1);
      readings(x, -13, 0, 0, 1);
      readings(x, 0, 256, 257);
      readings(x, 0, new int[22]);
      readings(x, -13, new int[23]);
      readings(x, 0, new int[24]);
      readings(x, -13, new int[25]);
      readings(x, -13, new int[26]);
      int[] full = new int[24];
      full[22] = 2;
      readings(x, -13, full);
      full[22] = 1;
      full[23] = 2;
      readings(x, 0, full);
      full[23] = 3;
      readings(x, -13, full);
      x = Check.made("b8;b1;b1;r00;r10;");
      refusedSorts(x, false);
      x = Check.made("r00;");
      readings(x, 0);
      readings(x, -13, 0, 0);
    });
  }

  private static void whatStays() {
    Sentence.says("The ROW that is read, and what is taken from a SHELF, stay there.", () -> {
      TakesAPage x = Check.made("b8;r00;r10;");
      Check.due("the text", Check.element(x, 0, 10), ';');
      Check.due("it can be read again", x.town(0), 3);
      Check.row(x, 1, 0, 0, 1, 1, 0);
      Check.row(x, 2, 0, 0, 1, 3, 0);
      x.keep(3, 1, 6, 5);
      x.most(0, 1, 0);
      x.spoils(0, 1, 0);
      x.gaps(0, 1, 0);
      x.run(1, 0);
      x.law(1, 3, 3);
      x.without(0, 1);
      x.judge(2);
      x.copy(1, 0, 2, 3, 1);
      Check.due("the READER comes", x.comes(3), 4);
      Check.due("and again", x.comes(3), 5);
      Check.due("his FEE", x.fee(3), -2);
      Check.due("he has no FAILURE", x.toss(3), -15);
      Check.due("he is there", x.fee(3), -2);
      for (int i = 0; i < 4; i++) {
        Check.due("READERS, READINGS " + i, Check.element(x, 1, i), i == 1 || i == 2 ? 1 : 0);
      }
      Check.due("judged", Check.element(x, 2, 2), 3);
      x.keep(3, 1, 3, 5);
      Check.due("a FAILURE is thrown", x.toss(3), 105);
      Check.due("and again", x.toss(3), 105);
      Check.due("he is there", x.fee(3), 16);
      Check.due("who came is another by now", x.reader(5, 0), 6);
    });
  }

  private static void promiseKeep() {
    Sentence.says("SHELF d gets: what = 0 nothing (the others do not matter); "
        + "1 a READER of KIND k with a FIGURE: 0. -1.", () -> {
      TakesAPage x = new TakesAPage();
      for (int odd : Sentence.outside(0, 7)) {
        x.keep(4, 1, 0, 0);
        Check.due("nothing, of KIND " + odd, x.keep(4, 0, odd, odd), 0);
        Check.due("nothing is held", x.fee(4), -11);
      }
      x.keep(4, 1, 1, 7);
      for (int d : Sentence.outside(0, 7)) {
        Check.due("SHELF " + d, x.keep(d, 1, 0, 0), -1);
        Check.due("KIND " + d, x.keep(4, 1, d, 0), -1);
      }
      for (int what : Sentence.outside(0, 1)) {
        Check.due("what " + what, x.keep(4, what, 0, 0), -1);
      }
      for (int figure : Sentence.outside(0, 9)) {
        Check.due("FIGURE " + figure, x.keep(4, 1, 0, figure), -1);
      }
      Check.due("he is still there", x.fee(4), 10);
      Check.due("KIND 7, FIGURE 9", x.keep(0, 1, 7, 9), 0);
      Check.due("KIND 0, FIGURE 0", x.keep(7, 1, 0, 0), 0);
    });
  }

  private static void promiseRow() {
    Sentence.says("SHELF d gets a ROW of a SORT: 0. -1 (n above 100); -14.", () -> {
      TakesAPage x = new TakesAPage();
      Check.row(x, 7, 1, 300, 400);
      for (int d : Sentence.outside(0, 7)) {
        Check.due("SHELF " + d, x.row(d, 0, 1), -1);
      }
      for (int sort : Sentence.outside(0, 2)) {
        Check.due("SORT " + sort, x.row(7, sort, 1), -1);
      }
      Check.due("101", x.row(7, 0, 101), -1);
      Check.due("far above", x.row(7, 0, Integer.MAX_VALUE), -1);
      Check.due("-1", x.row(7, 0, -1), -14);
      Check.due("far below", x.row(7, 0, Integer.MIN_VALUE), -14);
      Check.due("it is still there", Check.element(x, 7, 1), 400);
      Check.due("no size of it", Check.element(x, 7, 2), NO_ROW);
      Check.due("100", x.row(0, 2, 100), 0);
      Check.due("0", x.row(0, 0, 0), 0);
    });
  }

  private static void promisePut() {
    Sentence.says("Element i of the ROW becomes v: 0. -1, -11, -12, -13.", () -> {
      TakesAPage x = new TakesAPage();
      Check.row(x, 1, 1, 5, 6, 7);
      x.keep(2, 1, 0, 0);
      for (int d : Sentence.outside(0, 7)) {
        Check.due("SHELF " + d, x.put(d, 0, 9), -1);
      }
      Check.due("nothing", x.put(0, 0, 9), -11);
      Check.due("a READER", x.put(2, 0, 9), -12);
      for (int i : Sentence.outside(0, 2)) {
        Check.due("place " + i, x.put(1, i, 9), -13);
      }
      x.row(3, 2, 0);
      Check.due("place 0 of none", x.put(3, 0, 9), -13);
      x.row(3, 2, 100);
      Check.due("place 99", x.put(3, 99, 9), 0);
      Check.due("place 100", x.put(3, 100, 9), -13);
      for (int i = 0; i < 3; i++) {
        Check.due("as it was", Check.element(x, 1, i), 5 + i);
      }
      Check.due("the last", x.put(1, 2, -9), 0);
      Check.due("it is so", Check.element(x, 1, 2), -9);
      Check.due("the others are as they were", Check.element(x, 1, 1), 6);
    });
  }

  private static void promiseElement() {
    Sentence.says("Element i of the ROW. IllegalArgumentException: no such SHELF; "
        + "IllegalStateException: no ROW, no such place.", () -> {
      TakesAPage x = new TakesAPage();
      Check.row(x, 7, 2, 5, Integer.MIN_VALUE, Integer.MAX_VALUE);
      Check.due("the first", Check.element(x, 7, 0), 5);
      Check.due("the least", Check.element(x, 7, 1), Integer.MIN_VALUE);
      Check.due("the last", Check.element(x, 7, 2), Integer.MAX_VALUE);
      for (int d : Sentence.outside(0, 7)) {
        Check.due("SHELF " + d, Check.element(x, d, 0), NO_SHELF);
      }
      for (int i : Sentence.outside(0, 2)) {
        Check.due("place " + i, Check.element(x, 7, i), NO_ROW);
      }
      Check.due("nothing", Check.element(x, 0, 0), NO_ROW);
      x.keep(7, 1, 0, 0);
      Check.due("a READER where a ROW was", Check.element(x, 7, 0), NO_ROW);
      x.row(7, 0, 0);
      Check.due("an empty ROW", Check.element(x, 7, 0), NO_ROW);
    });
  }

  private static TakesAPage twoRows(int sort) {
    TakesAPage x = new TakesAPage();
    Check.row(x, 1, sort, 1, 2, 3, 4, 5);
    Check.row(x, 2, sort, 11, 12, 13);
    return x;
  }

  private static void holds(TakesAPage x, int d, int... elements) {
    for (int i = 0; i < elements.length; i++) {
      Check.due("element " + i, Check.element(x, d, i), elements[i]);
    }
    Check.due("no more", Check.element(x, d, elements.length), NO_ROW);
  }

  private static void promiseCopy() {
    Sentence.says("n elements of the ROW in SHELF d from i on come to that in SHELF e from j on: n.", () -> {
      for (int sort = 0; sort < 3; sort++) {
        TakesAPage x = twoRows(sort);
        Check.due("of the end to the end", x.copy(1, 3, 2, 1, 2), 2);
        holds(x, 2, 11, 4, 5);
        holds(x, 1, 1, 2, 3, 4, 5);
        Check.due("none", x.copy(1, 0, 2, 0, 0), 0);
        Check.due("none from the very end to the very end", x.copy(1, 5, 2, 3, 0), 0);
        holds(x, 2, 11, 4, 5);
        Check.due("a whole ROW", x.copy(2, 0, 1, 2, 3), 3);
        holds(x, 1, 1, 2, 11, 4, 5);
        Check.due("to itself, on", x.copy(1, 0, 1, 1, 4), 4);
        holds(x, 1, 1, 1, 2, 11, 4);
        Check.due("to itself, back", x.copy(1, 1, 1, 0, 4), 4);
        holds(x, 1, 1, 2, 11, 4, 4);
        Check.due("to itself, all", x.copy(1, 0, 1, 0, 5), 5);
        holds(x, 1, 1, 2, 11, 4, 4);
        x.row(3, sort, 100);
        x.put(3, 0, 7);
        Check.due("a full ROW", x.copy(3, 0, 3, 0, 100), 100);
        Check.due("to the last place", x.copy(3, 0, 3, 99, 1), 1);
        Check.due("it came", Check.element(x, 3, 99), 7);
        x.row(4, sort, 0);
        Check.due("of an empty ROW none", x.copy(4, 0, 4, 0, 0), 0);
        Check.due("of an empty ROW one", x.copy(4, 0, 1, 0, 1), -13);
        Check.due("to an empty ROW one", x.copy(1, 0, 4, 0, 1), -13);
      }
    });
    Sentence.says("-1, -11 (either), -12 (no ROWS of one SORT), -13 (n below 0, too).", () -> {
      TakesAPage x = twoRows(1);
      for (int d : Sentence.outside(0, 7)) {
        Check.due("from SHELF " + d, x.copy(d, 0, 2, 0, 1), -1);
        Check.due("to SHELF " + d, x.copy(1, 0, d, 0, 1), -1);
      }
      Check.due("from nothing", x.copy(0, 0, 2, 0, 1), -11);
      Check.due("to nothing", x.copy(1, 0, 0, 0, 1), -11);
      x.keep(3, 1, 0, 0);
      Check.due("from a READER", x.copy(3, 0, 2, 0, 1), -12);
      Check.due("to a READER", x.copy(1, 0, 3, 0, 1), -12);
      Check.due("of two READERS", x.copy(3, 0, 3, 0, 0), -12);
      for (int sort = 0; sort < 3; sort += 2) {
        x.row(4, sort, 5);
        Check.due("from another SORT", x.copy(4, 0, 1, 0, 1), -12);
        Check.due("to another SORT", x.copy(1, 0, 4, 0, 0), -12);
      }
      Check.due("n -1", x.copy(1, 1, 2, 1, -1), -13);
      Check.due("n far below", x.copy(1, 1, 2, 1, Integer.MIN_VALUE), -13);
      Check.due("n far above", x.copy(1, 1, 2, 1, Integer.MAX_VALUE), -13);
      Check.due("from -1", x.copy(1, -1, 2, 0, 1), -13);
      Check.due("to -1", x.copy(1, 0, 2, -1, 1), -13);
      Check.due("from -1, none", x.copy(1, -1, 2, 0, 0), -13);
      Check.due("to -1, none", x.copy(1, 0, 2, -1, 0), -13);
      Check.due("beyond the end it comes from", x.copy(1, 3, 2, 0, 3), -13);
      Check.due("beyond the end it goes to", x.copy(1, 0, 2, 1, 3), -13);
      Check.due("all of five and one more", x.copy(1, 0, 1, 0, 6), -13);
      for (int far : new int[] {Integer.MAX_VALUE, Integer.MAX_VALUE - 1, Integer.MIN_VALUE}) {
        Check.due("from " + far, x.copy(1, far, 2, 0, 2), -13);
        Check.due("to " + far, x.copy(1, 0, 2, far, 2), -13);
        Check.due("both " + far, x.copy(1, far, 2, far, far), -13);
      }
      holds(x, 1, 1, 2, 3, 4, 5);
      holds(x, 2, 11, 12, 13);
    });
  }

  private static void promiseComes() {
    Sentence.says("The READER on SHELF d comes as one more: his number. -1, -11, -12 (a ROW), -2.", () -> {
      TakesAPage x = new TakesAPage();
      x.row(1, 0, 1);
      for (int d : Sentence.outside(0, 7)) {
        Check.due("SHELF " + d, x.comes(d), -1);
      }
      Check.due("nothing", x.comes(0), -11);
      Check.due("a ROW", x.comes(1), -12);
      for (int sort = 0; sort < 3; sort++) {
        x.row(1, sort, 0);
        Check.due("an empty ROW", x.comes(1), -12);
      }
      Check.due("nobody came", x.count(1), 0);
      for (int k = 0; k < 6; k++) {
        x.keep(7, 1, k + 2, 9 - k);
        Check.due("comes", x.comes(7), k);
      }
      Check.due("a seventh", x.comes(7), -2);
      Check.due("six", x.count(1), 6);
      for (int k = 0; k < 6; k++) {
        Check.due("KIND and FIGURE", x.reader(k, 0) * 10 + x.reader(k, 1), (k + 2) * 10 + 9 - k);
      }
    });
  }

  private static void promiseFee() {
    Sentence.says("FEE of the READER on SHELF d. -1, -11, -12 (a ROW).", () -> {
      TakesAPage x = new TakesAPage();
      for (int d : Sentence.outside(0, 7)) {
        Check.due("SHELF " + d, x.fee(d), -1);
      }
      Check.due("nothing", x.fee(3), -11);
      for (int sort = 0; sort < 3; sort++) {
        x.row(3, sort, sort * 50);
        Check.due("a ROW", x.fee(3), -12);
      }
      x.keep(3, 1, 6, 4);
      Check.due("-1 that is no refusal", x.fee(3), -1);
      x.keep(3, 1, 6, 9);
      Check.due("the least", x.fee(3), -6);
      x.keep(3, 1, 4, 9);
      Check.due("the greatest", x.fee(3), 30);
    });
  }

  private static void failure(int kind, int figure, int want) {
    TakesAPage x = new TakesAPage();
    x.keep(5, 1, kind, figure);
    Check.due("FAILURE of " + kind + " with " + figure, x.toss(5), want);
    Check.due("and again", x.toss(5), want);
  }

  private static void promiseToss() {
    Sentence.says("The FAILURE of the READER on SHELF d is thrown, and caught: its FIGURE", () -> {
      int[] plain = {0, 1, 2, 4, 5};
      for (int kind : plain) {
        for (int figure = 1; figure < 10; figure++) {
          failure(kind, figure, figure);
        }
      }
    });
    Sentence.says("of OWN ones 100 more", () -> {
      for (int figure = 1; figure < 10; figure++) {
        failure(3, figure, 100 + figure);
      }
    });
    Sentence.says("of LEAVES ones 200 plus their FEE, in place of all that (FIGURE, too)", () -> {
      for (int figure = 1; figure < 10; figure++) {
        failure(7, figure, 206);
      }
    });
    Sentence.says("-15: TOLD ones, and any with FIGURE 0, have none.", () -> {
      for (int figure = 0; figure < 10; figure++) {
        failure(6, figure, -15);
      }
      for (int kind = 0; kind < 8; kind++) {
        failure(kind, 0, -15);
      }
    });
    Sentence.says("-1, -11, -12 (a ROW); -15", () -> {
      TakesAPage x = new TakesAPage();
      for (int d : Sentence.outside(0, 7)) {
        Check.due("SHELF " + d, x.toss(d), -1);
      }
      Check.due("nothing", x.toss(6), -11);
      for (int sort = 0; sort < 3; sort++) {
        x.row(6, sort, sort);
        Check.due("a ROW", x.toss(6), -12);
      }
    });
  }
}
