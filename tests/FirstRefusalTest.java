import java.io.IOException;

/**
 * Where two refusals of one call could both be told, the one that the document names first is told:
 * for each such call each pair of its refusals, by arguments that would earn both.
 */
public final class FirstRefusalTest {
  private static final int LOWER = -1000000000;

  /** SHELVES of an object that are refused as READERS and as READINGS, and by which answer. */
  private static final int NOTHING = 7;
  private static final int READER = 6;
  private static final int LONG_SHORTS = 5;
  private static final int LONG_INTS = 4;
  private static final int LONG_BYTES = 3;
  private static final int NO_NUMBERS = 2;
  private static final int WELL = 1;
  private static final int[] REFUSED = {NOTHING, READER, LONG_SHORTS, LONG_INTS, LONG_BYTES, NO_NUMBERS};
  private static final int[] BY = {-11, -12, -12, -12, -13, -13};

  private static final String WORDS =
      "Answers of several refusals are the first one as they are told at the call";

  public static void main(String[] args) throws IOException {
    Sentence.says(WORDS, FirstRefusalTest::numberAheadOfRow);
    Sentence.says(WORDS, FirstRefusalTest::noTownAheadOfRow);
    Sentence.says(WORDS, FirstRefusalTest::sortAheadOfSize);
    Sentence.says(WORDS, FirstRefusalTest::faultKinds);
    Sentence.says(WORDS, FirstRefusalTest::numbersAheadOfState);
    Sentence.says(WORDS, FirstRefusalTest::rowAheadOfSize);
    Sentence.says(WORDS, FirstRefusalTest::putsAndElements);
    Sentence.says(WORDS, FirstRefusalTest::copies);
    Sentence.says(WORDS, FirstRefusalTest::coming);
    Sentence.says(WORDS, FirstRefusalTest::whatLayThereBefore);
    Sentence.end("FirstRefusalTest");
  }

  private static TakesAPage shelved() {
    TakesAPage x = Check.made("b3;b2;r00;r10;");
    Check.row(x, WELL, 0, 0, 1);
    Check.row(x, NO_NUMBERS, 0, 9, -1);
    Check.due("row", x.row(LONG_BYTES, 0, 27), 0);
    Check.due("row", x.row(LONG_INTS, 2, 27), 0);
    Check.due("row", x.row(LONG_SHORTS, 1, 27), 0);
    Check.due("keep", x.keep(READER, 1, 0, 0), 0);
    return x;
  }

  /** -1 of a number goes ahead of -11, -12, -13 of a ROW. */
  private static void numberAheadOfRow() {
    TakesAPage x = shelved();
    for (int k = 0; k < REFUSED.length; k++) {
      int d = REFUSED[k];
      Check.due("run by " + d, x.run(d, 0), BY[k]);
      Check.due("run: what, ahead of " + d, x.run(d, 2), -1);
      Check.due("run: what, ahead of " + d, x.run(d, -1), -1);
      Check.due("law by " + d, x.law(d, 0, 0), BY[k]);
      Check.due("law: kind, ahead of " + d, x.law(d, 8, 0), -1);
      Check.due("law: kind, ahead of " + d, x.law(d, -1, 0), -1);
      Check.due("law: figure, ahead of " + d, x.law(d, 0, 10), -1);
      Check.due("law: figure, ahead of " + d, x.law(d, 0, -1), -1);
      Check.due("without by " + d, x.without(0, d), BY[k]);
      Check.due("without: reader, ahead of " + d, x.without(2, d), -1);
      Check.due("without: reader, ahead of " + d, x.without(-1, d), -1);
      Check.due("most by " + d, x.most(0, d, 0), BY[k]);
      Check.due("most: book, ahead of " + d, x.most(2, d, 0), -1);
      Check.due("most: book, ahead of " + d, x.most(-1, d, 0), -1);
      Check.due("most: what, ahead of " + d, x.most(0, d, 2), -1);
      Check.due("most: what, ahead of " + d, x.most(0, d, -1), -1);
    }
    for (int k = 0; k < REFUSED.length; k++) {
      int d = REFUSED[k];
      Check.due("spoils by " + d, x.spoils(0, d, 0), BY[k]);
      Check.due("spoils: book, ahead of " + d, x.spoils(2, d, 0), -1);
      Check.due("spoils: book, ahead of " + d, x.spoils(-1, d, 0), -1);
      Check.due("spoils: what, ahead of " + d, x.spoils(0, d, 2), -1);
      Check.due("spoils: what, ahead of " + d, x.spoils(0, d, -1), -1);
      Check.due("gaps by " + d, x.gaps(0, d, 0), BY[k]);
      Check.due("gaps: book, ahead of " + d, x.gaps(2, d, 0), -1);
      Check.due("gaps: book, ahead of " + d, x.gaps(-1, d, 0), -1);
      Check.due("gaps: what, ahead of " + d, x.gaps(0, d, 2), -1);
      Check.due("gaps: what, ahead of " + d, x.gaps(0, d, -1), -1);
    }
    // By twos it tells that READER 0 reads BOOK 1.
    Check.due("all well", x.run(WELL, 0), 2);
  }

  /** Where there are no BOOKS and no READERS, -1 of them goes ahead of the ROW, too. */
  private static void noTownAheadOfRow() {
    TakesAPage x = new TakesAPage();
    x.keep(READER, 1, 0, 0);
    x.row(LONG_SHORTS, 1, 27);
    x.row(LONG_BYTES, 0, 27);
    int[] refused = {NOTHING, READER, LONG_SHORTS, LONG_BYTES};
    int[] by = {-11, -12, -12, -13};
    for (int k = 0; k < refused.length; k++) {
      int d = refused[k];
      Check.due("no READER, ahead of " + d, x.without(0, d), -1);
      Check.due("no BOOK, ahead of " + d, x.most(0, d, 0), -1);
      Check.due("no BOOK, ahead of " + d, x.spoils(0, d, 0), -1);
      Check.due("no BOOK, ahead of " + d, x.gaps(0, d, 0), -1);
      Check.due("run by " + d, x.run(d, 0), by[k]);
      Check.due("law by " + d, x.law(d, 0, 0), by[k]);
    }
  }

  /** -12 of a ROW's SORT goes ahead of -13 of its size and of what stands in it. */
  private static void rowAheadOfSize() {
    TakesAPage x = Check.made("b3;r00;");
    for (int sort = 1; sort < 3; sort++) {
      int[] sizes = {1, 3, 7, 25, 26, 100};
      for (int size : sizes) {
        x.row(3, sort, size);
        x.put(3, size - 1, 99);
        Check.due("readings", x.run(3, 0), -12);
        Check.due("readings", x.law(3, 0, 0), -12);
        Check.due("readings", x.without(0, 3), -12);
        Check.due("readers", x.most(0, 3, 0), -12);
        Check.due("readers", x.spoils(0, 3, 0), -12);
        Check.due("readers", x.gaps(0, 3, 0), -12);
        Check.due("text", x.town(3), -12);
      }
    }
  }

  /** -1 of a SHELF, a SORT, a size above 100 goes ahead of -14 of a size below 0. */
  private static void sortAheadOfSize() {
    TakesAPage x = new TakesAPage();
    Check.due("row: shelf ahead of size", x.row(8, 0, -1), -1);
    Check.due("row: shelf ahead of size", x.row(-1, 0, -1), -1);
    Check.due("row: sort ahead of size", x.row(0, 3, -1), -1);
    Check.due("row: sort ahead of size", x.row(0, -1, -1), -1);
    Check.due("row: all ahead of size", x.row(9, 9, Integer.MIN_VALUE), -1);
    Check.due("row: size", x.row(0, 0, -1), -14);
  }

  /** Of two FAULTS the first kind, and of one kind the first place. */
  private static void faultKinds() {
    String[] texts = {"b9;?", "?b9;", "b9;r80;", "b1;o00;o00;o00;", "b1??", "b9;b", "x00;;"};
    int[] faults = {-1003, -1000, -2000, -2007, -1002, -1004, -1004};
    for (int k = 0; k < texts.length; k++) {
      Check.due("town " + texts[k], Check.town(new TakesAPage(), texts[k]), faults[k]);
    }
    TakesAPage x = new TakesAPage();
    Check.row(x, 0, 1, '?');
    Check.due("the SORT goes ahead of the FAULT", x.town(0), -12);
  }

  /** -1 goes ahead of -3. */
  private static void numbersAheadOfState() {
    TakesAPage none = new TakesAPage();
    int[] days = {0, -1, 41, Integer.MIN_VALUE, Integer.MAX_VALUE};
    for (int n : days) {
      Check.due("seeded: n, ahead of no READERS, no BOOKS", none.seeded(n, 1), -1);
    }
    Check.due("seeded: no READERS, no BOOKS", none.seeded(40, 1), -3);
    TakesAPage x = Check.made("b3;b1;r00;o00;o10;");
    Check.due("price: OUT", x.price(0, 0, 0), LOWER - 3);
    Check.due("price: reader, ahead of OUT", x.price(1, 0, 0), LOWER - 1);
    Check.due("price: reader, ahead of OUT", x.price(-1, 0, 0), LOWER - 1);
    Check.due("price: book", x.price(0, 2, 0), LOWER - 1);
    Check.due("price: page, where all are OUT", x.price(0, 1, 1), LOWER - 1);
    Check.due("price: page, where all are OUT", x.price(0, 1, -1), LOWER - 1);
    Check.due("copies: one twice", x.copies(0, 0), -1);
    Check.due("copies: no other, and it would be unlike", x.copies(0, 2), -1);
    Check.due("howMany: 41, of which no copies are enough", x.howMany(0, 1, 41), -1);
    Check.due("takes: no reader, where none is IN", x.takes(1, 1), -1);
  }

  private static void putsAndElements() {
    TakesAPage x = shelved();
    int[] places = {-1, 0, 27, Integer.MIN_VALUE, Integer.MAX_VALUE};
    for (int i : places) {
      Check.due("put: shelf, ahead of place", x.put(8, i, 1), -1);
      Check.due("put: shelf, ahead of place", x.put(-1, i, 1), -1);
      Check.due("put: nothing, ahead of place", x.put(NOTHING, i, 1), -11);
      Check.due("put: a READER, ahead of place", x.put(READER, i, 1), -12);
      Check.due("element: shelf, ahead of place", Check.element(x, 8, i), Long.MIN_VALUE + 1);
      Check.due("element: shelf, ahead of place", Check.element(x, -1, i), Long.MIN_VALUE + 1);
      Check.due("element: nothing", Check.element(x, NOTHING, i), Long.MIN_VALUE + 2);
      Check.due("element: a READER", Check.element(x, READER, i), Long.MIN_VALUE + 2);
    }
    Check.due("put: place", x.put(LONG_INTS, 27, 1), -13);
  }

  private static void copies() {
    TakesAPage x = shelved();
    int[] others = {NOTHING, READER, LONG_SHORTS, LONG_BYTES};
    for (int other : others) {
      Check.due("copy: no SHELF to, from " + other, x.copy(other, -1, 8, -1, -1), -1);
      Check.due("copy: no SHELF from, to " + other, x.copy(-1, -1, other, -1, -1), -1);
      Check.due("copy: from nothing to " + other, x.copy(NOTHING, -1, other, -1, -1), -11);
      Check.due("copy: to nothing from " + other, x.copy(other, -1, NOTHING, -1, -1), -11);
    }
    for (int k = 1; k < others.length; k++) {
      int other = others[k];
      Check.due("copy: from a READER to " + other, x.copy(READER, -1, other, -1, -1), -12);
      Check.due("copy: to a READER from " + other, x.copy(other, -1, READER, -1, -1), -12);
      int unlike = other == LONG_INTS ? LONG_BYTES : LONG_INTS;
      Check.due("copy: unlike " + other, x.copy(unlike, 99, other, 0, 1), -12);
      Check.due("copy: unlike " + other, x.copy(other, 0, unlike, 0, -1), -12);
    }
    Check.due("copy: places", x.copy(LONG_BYTES, 0, WELL, 0, 3), -13);
  }

  /** -1, -11, -12 of the SHELF go ahead of -2 of no room. */
  private static void coming() {
    TakesAPage x = shelved();
    for (int k = 2; k < 6; k++) {
      Check.due("comes", x.comes(READER), k);
    }
    Check.due("comes: no room", x.comes(READER), -2);
    Check.due("comes: no shelf, ahead of no room", x.comes(8), -1);
    Check.due("comes: no shelf, ahead of no room", x.comes(-1), -1);
    Check.due("comes: nothing, ahead of no room", x.comes(NOTHING), -11);
    Check.due("comes: a ROW, ahead of no room", x.comes(LONG_BYTES), -12);
    Check.due("comes: a ROW, ahead of no room", x.comes(LONG_INTS), -12);
  }

  /** What lay on a SHELF before has no part in what is refused. */
  private static void whatLayThereBefore() {
    TakesAPage x = new TakesAPage();
    x.keep(0, 1, 6, 9);
    Check.due("toss: no FAILURE", x.toss(0), -15);
    x.row(0, 0, 0);
    Check.due("toss: a ROW, where one without a FAILURE was", x.toss(0), -12);
    Check.due("fee: a ROW, where a READER was", x.fee(0), -12);
    Check.due("comes: a ROW, where a READER was", x.comes(0), -12);
    x.keep(0, 0, 6, 9);
    Check.due("toss: nothing, where a ROW was", x.toss(0), -11);
    Check.due("put: nothing, where a ROW was", x.put(0, 5, 5), -11);
    Check.due("town: nothing, where a ROW was", x.town(0), -11);
    Check.due("judge: nothing, where a ROW was", x.judge(0), -11);
    x.keep(0, 1, 0, 9);
    Check.due("put: a READER, where nothing was", x.put(0, 5, 5), -12);
    Check.due("judge: a READER, where nothing was", x.judge(0), -12);
  }
}
