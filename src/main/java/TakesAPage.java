/** Each reader takes a page: ../shared/DOC.md tells what every call answers. */
public final class TakesAPage {
  private static final int NO_SUCH = -1;
  private static final int NO_ROOM = -2;
  private static final int NOT_NOW = -3;
  private static final int NONE = -4;
  private static final int NOTHING_HELD = -11;
  private static final int OTHER_KIND = -12;
  private static final int NO_PLACE = -13;
  private static final int SIZE_BELOW_ZERO = -14;
  private static final int NO_FAILURE = -15;
  /** Refusals lie so much lower where an answer may be below 0 itself. */
  private static final int LOWER = 1000000000;

  private static final int BOOK_ROOM = 4;
  private static final int PAGE_ROOM = 8;
  private static final int READER_ROOM = 6;
  private static final int SHELF_ROOM = 8;
  private static final int ROW_ROOM = 100;
  private static final int MOST_FIGURE = 9;
  private static final int MOST_CALLED = 6;
  private static final int MOST_ORDERS = 720;
  private static final int MOST_READINGS = 12;
  private static final int MOST_LASTING = 30;
  private static final int MOST_TURNS = 16;
  private static final int MOST_COPIES = 9;
  private static final int MOST_DAYS = 40;

  private static final int BYTES = 0;
  private static final int SHORTS = 1;
  private static final int INTS = 2;

  private final Town now = new Town();
  private final Town spare = new Town();
  private final Town imaged = new Town();
  private boolean imageTaken = false;
  private final Shelf[] shelves = new Shelf[SHELF_ROOM];
  /** PAGES that are IN of each BOOK, in mind. */
  private final int[] mind = new int[BOOK_ROOM];
  private final int[] order = new int[MOST_CALLED];
  /** PAGES that are IN, and the sum of WORTHS, ahead of each place of the order. */
  private final int[] orderIn = new int[MOST_CALLED + 1];
  private final int[] orderSum = new int[MOST_CALLED + 1];

  public TakesAPage() {
    for (int d = 0; d < shelves.length; d++) {
      shelves[d] = new Shelf();
    }
  }

  // ---- towns

  public int town(int d) {
    Shelf text = shelfAt(d);
    int refusal = byteRowRefusal(text);
    if (text == null || refusal != 0) {
      return refusal;
    }
    int fault = formFault(text);
    if (fault != NONE) {
      return -1000 - fault;
    }
    spare.becomes(now);
    int statements = 0;
    // The form is well by now, so letters stand at the heads of STATEMENTS alone.
    for (int at = 0; at < text.size; at++) {
      if (digitsBehind(text.valueAt(at)) > 0) {
        if (!spare.does(text, at)) {
          return -2000 - at;
        }
        statements++;
      }
    }
    now.becomes(spare);
    return statements;
  }

  public int book(int book, int what) {
    Book told = now.bookAt(book);
    if (told == null) {
      return NO_SUCH;
    }
    switch (what) {
      case 0: return told.pages;
      case 1: return Integer.bitCount(told.in);
      case 2: return told.in;
      default: return NO_SUCH;
    }
  }

  public int page(int book, int page, int what) {
    Book told = now.bookAt(book);
    if (told == null || !told.hasPage(page)) {
      return NO_SUCH;
    }
    switch (what) {
      case 0: return told.isIn(page) ? 1 : 0;
      case 1: return told.needOf(page);
      case 2: return told.holderOf(page);
      default: return NO_SUCH;
    }
  }

  public int reader(int reader, int what) {
    Reader told = now.readerAt(reader);
    if (told == null) {
      return NO_SUCH;
    }
    switch (what) {
      case 0: return told.kindNumber();
      case 1: return told.figure;
      case 2: return now.pagesHeldBy(reader);
      default: return NO_SUCH;
    }
  }

  // ---- readings

  public int understands(int book) {
    Book told = now.bookAt(book);
    return told == null ? NO_SUCH : told.understoodOf(told.in);
  }

  public int worth(int reader, int book) {
    Reader who = now.readerAt(reader);
    Book told = now.bookAt(book);
    return who == null || told == null ? NO_SUCH : who.worthOf(told, told.in);
  }

  public int takes(int reader, int book) {
    Reader who = now.readerAt(reader);
    Book told = now.bookAt(book);
    return who == null || told == null ? NO_SUCH : who.firstPage(told, told.in);
  }

  public int read(int reader, int book) {
    return now.reads(reader, book);
  }

  public int brings(int reader) {
    return now.readerAt(reader) == null ? NO_SUCH : now.takesBackFrom(reader);
  }

  // ---- told readings, orders

  public int run(int d, int what) {
    Shelf shelf = shelfAt(d);
    if (shelf == null || what < 0 || what > 1) {
      return NO_SUCH;
    }
    int refusal = readingsRefusal(shelf);
    if (refusal != 0) {
      return refusal;
    }
    int sum = sumInMind(shelf, null, NONE);
    return what == 0 ? sum : now.pagesInAll() - pagesInMind();
  }

  public int most(int book, int d, int what) {
    Book told = now.bookAt(book);
    Shelf shelf = shelfAt(d);
    if (told == null || shelf == null || what < 0 || what > 1) {
      return NO_SUCH;
    }
    int refusal = readersRefusal(shelf);
    return refusal != 0 ? refusal : bestOrder(shelf, told, what);
  }

  public int spoils(int book, int d, int what) {
    Book told = now.bookAt(book);
    Shelf shelf = shelfAt(d);
    if (told == null || shelf == null || what < 0 || what > 1) {
      return NO_SUCH;
    }
    int refusal = readersRefusal(shelf);
    if (refusal != 0) {
      return refusal;
    }
    int best = NONE;
    int bestSum = -1;
    for (int page = 0; page < PAGE_ROOM; page++) {
      if (told.isIn(page)) {
        int sum = sumOfCalled(shelf, told, told.in & ~(1 << page));
        if (sum > bestSum) {
          bestSum = sum;
          best = page;
        }
      }
    }
    if (what == 0) {
      return best;
    }
    return best == NONE ? sumOfCalled(shelf, told, told.in) : bestSum;
  }

  public int lasts(int reader, int book) {
    Reader who = now.readerAt(reader);
    Book told = now.bookAt(book);
    if (who == null || told == null) {
      return NO_SUCH;
    }
    return worthyReadings(who, told, told.in, MOST_LASTING);
  }

  public int law(int d, int kind, int figure) {
    Shelf shelf = shelfAt(d);
    Reader all = readerOf(kind, figure);
    if (shelf == null || all == null) {
      return NO_SUCH;
    }
    int refusal = readingsRefusal(shelf);
    return refusal != 0 ? refusal : sumInMind(shelf, all, NONE);
  }

  public int without(int reader, int d) {
    Shelf shelf = shelfAt(d);
    if (shelf == null || now.readerAt(reader) == null) {
      return NO_SUCH;
    }
    int refusal = readingsRefusal(shelf);
    return refusal != 0 ? refusal : sumInMind(shelf, null, reader);
  }

  // ---- drawers, copies, gaps

  public int has(int reader, int book) {
    Book told = now.bookAt(book);
    if (told == null || now.readerAt(reader) == null) {
      return NO_SUCH;
    }
    return told.heldBy(reader);
  }

  public int together(int book) {
    Book told = now.bookAt(book);
    if (told == null) {
      return NO_SUCH;
    }
    int holders = 0;
    for (int page = 0; page < PAGE_ROOM; page++) {
      if (told.hasPage(page) && !told.isIn(page)) {
        int holder = told.holderOf(page);
        if (holder < 0) {
          return NONE;
        }
        holders |= 1 << holder;
      }
    }
    return holders;
  }

  public int copies(int one, int other) {
    Book first = now.bookAt(one);
    Book second = now.bookAt(other);
    if (first == null || second == null || one == other) {
      return NO_SUCH;
    }
    return first.pages != second.pages ? NONE : first.in | second.in;
  }

  public int gaps(int book, int d, int what) {
    Book told = now.bookAt(book);
    Shelf shelf = shelfAt(d);
    if (told == null || shelf == null || what < 0 || what > 1) {
      return NO_SUCH;
    }
    int refusal = readersRefusal(shelf);
    if (refusal != 0) {
      return refusal;
    }
    int out = told.whole() & ~told.in;
    int first = NONE;
    int fitting = 0;
    for (int place = 0; place < shelf.size; place++) {
      Reader who = now.readerAt(shelf.valueAt(place));
      if (who != null && who.tornPages(told, told.whole()) == out) {
        first = first == NONE ? place : first;
        fitting++;
      }
    }
    return what == 0 ? fitting : first;
  }

  // ---- turns, prices, years

  public int turns(int one, int other, int book) {
    Reader first = now.readerAt(one);
    Reader second = now.readerAt(other);
    Book told = now.bookAt(book);
    if (first == null || second == null || told == null) {
      return NO_SUCH - LOWER;
    }
    int in = told.in;
    int ahead = 0;
    for (int turn = 0; turn < MOST_TURNS && in != 0; turn++) {
      boolean firsts = (turn & 1) == 0;
      Reader who = firsts ? first : second;
      int value = who.worthOf(told, in);
      ahead += firsts ? value : -value;
      in &= ~who.tornPages(told, in);
    }
    return ahead;
  }

  public int price(int reader, int book, int page) {
    Reader who = now.readerAt(reader);
    Book told = now.bookAt(book);
    if (who == null || told == null || !told.hasPage(page)) {
      return NO_SUCH - LOWER;
    }
    if (!told.isIn(page)) {
      return NOT_NOW - LOWER;
    }
    return who.worthOf(told, told.in) - who.worthOf(told, told.in & ~(1 << page));
  }

  public int howMany(int reader, int book, int n) {
    Reader who = now.readerAt(reader);
    Book told = now.bookAt(book);
    if (who == null || told == null || n < 1 || n > MOST_DAYS) {
      return NO_SUCH;
    }
    // A copy with WORTH above 0 is read as long as there is one, and each lasts alike,
    // so it does not matter in which order the copies are read.
    int each = worthyReadings(who, told, told.whole(), n);
    if (each < 1) {
      return NONE;
    }
    int needed = (n + each - 1) / each;
    return needed > MOST_COPIES ? NONE : needed;
  }

  public int seeded(int n, int z) {
    if (n < 1 || n > MOST_DAYS) {
      return NO_SUCH;
    }
    if (now.readerCount == 0 || now.bookCount == 0) {
      return NOT_NOW;
    }
    beginMind();
    int sum = 0;
    int seed = z;
    for (int day = 0; day < n; day++) {
      seed = nextSeed(seed);
      int reader = drawBelow(now.readerCount, seed);
      seed = nextSeed(seed);
      int book = drawBelow(now.bookCount, seed);
      sum += readInMind(now.readerAt(reader), book);
    }
    return sum;
  }

  public int judge(int d) {
    Shelf shelf = shelfAt(d);
    int refusal = rowRefusal(shelf);
    if (shelf == null || refusal != 0) {
      return refusal;
    }
    beginMind();
    for (int at = 0; at < shelf.size; at += 3) {
      if (shelf.size - at < 3) {
        return at;
      }
      Reader who = now.readerAt(shelf.valueAt(at));
      int book = shelf.valueAt(at + 1);
      if (who == null) {
        return at;
      }
      if (now.bookAt(book) == null) {
        return at + 1;
      }
      if (readInMind(who, book) != shelf.valueAt(at + 2)) {
        return at + 2;
      }
    }
    return NONE;
  }

  // ---- the image, what is told

  public int image() {
    imaged.becomes(now);
    imageTaken = true;
    return now.day;
  }

  public int restore() {
    if (!imageTaken) {
      return NOT_NOW;
    }
    now.becomes(imaged);
    return now.day;
  }

  public int count(int what) {
    switch (what) {
      case 0: return now.bookCount;
      case 1: return now.readerCount;
      case 2: return now.day;
      case 3: return now.pagesIn();
      case 4: return now.pagesInAll() - now.pagesIn();
      default: return NO_SUCH;
    }
  }

  // ---- shelves

  public int keep(int d, int what, int k, int figure) {
    Shelf shelf = shelfAt(d);
    if (shelf == null || what < 0 || what > 1) {
      return NO_SUCH;
    }
    Reader kept = what == 1 ? readerOf(k, figure) : null;
    if (what == 1 && kept == null) {
      return NO_SUCH;
    }
    shelf.holdReader(kept);
    return 0;
  }

  public int row(int d, int sort, int n) {
    Shelf shelf = shelfAt(d);
    if (shelf == null || sort < BYTES || sort > INTS || n > ROW_ROOM) {
      return NO_SUCH;
    }
    if (n < 0) {
      return SIZE_BELOW_ZERO;
    }
    shelf.holdRow(sort, n);
    return 0;
  }

  public int put(int d, int i, int v) {
    Shelf shelf = shelfAt(d);
    int refusal = rowRefusal(shelf);
    if (shelf == null || refusal != 0) {
      return refusal;
    }
    return shelf.becomesAt(i, v) ? 0 : NO_PLACE;
  }

  public long element(int d, int i) throws IllegalArgumentException, IllegalStateException {
    Shelf shelf = shelfAt(d);
    if (shelf == null) {
      throw new IllegalArgumentException("no such shelf");
    }
    if (!shelf.hasRow || i < 0 || i >= shelf.size) {
      throw new IllegalStateException("no row, or no such place in it");
    }
    return shelf.valueAt(i);
  }

  public int copy(int d, int i, int e, int j, int n) {
    Shelf from = shelfAt(d);
    Shelf to = shelfAt(e);
    if (from == null || to == null) {
      return NO_SUCH;
    }
    if (from.isEmpty() || to.isEmpty()) {
      return NOTHING_HELD;
    }
    if (!from.hasRow || !to.hasRow || from.sort != to.sort) {
      return OTHER_KIND;
    }
    if (i < 0 || j < 0 || n < 0 || n > from.size - i || n > to.size - j) {
      return NO_PLACE;
    }
    System.arraycopy(from.elements, i, to.elements, j, n);
    return n;
  }

  public int comes(int d) {
    Shelf shelf = shelfAt(d);
    int refusal = readerRefusal(shelf);
    if (shelf == null || refusal != 0) {
      return refusal;
    }
    return now.addsReader(shelf.reader) ? now.readerCount - 1 : NO_ROOM;
  }

  public int fee(int d) {
    Shelf shelf = shelfAt(d);
    int refusal = readerRefusal(shelf);
    if (shelf == null || shelf.reader == null || refusal != 0) {
      return refusal;
    }
    return shelf.reader.feeOf();
  }

  public int toss(int d) {
    Shelf shelf = shelfAt(d);
    int refusal = readerRefusal(shelf);
    if (shelf == null || shelf.reader == null || refusal != 0) {
      return refusal;
    }
    try {
      shelf.reader.fails();
    } catch (IllegalStateException failure) {
      return shelf.reader.failureNumber();
    }
    return NO_FAILURE;
  }

  // ---- refusals of what a SHELF holds: 0 if there is none

  private Shelf shelfAt(int d) {
    return d >= 0 && d < shelves.length ? shelves[d] : null;
  }

  private static int rowRefusal(Shelf shelf) {
    if (shelf == null) {
      return NO_SUCH;
    }
    if (shelf.isEmpty()) {
      return NOTHING_HELD;
    }
    return shelf.hasRow ? 0 : OTHER_KIND;
  }

  private static int byteRowRefusal(Shelf shelf) {
    int refusal = rowRefusal(shelf);
    if (shelf == null || refusal != 0) {
      return refusal;
    }
    return shelf.sort == BYTES ? 0 : OTHER_KIND;
  }

  private static int readerRefusal(Shelf shelf) {
    if (shelf == null) {
      return NO_SUCH;
    }
    if (shelf.isEmpty()) {
      return NOTHING_HELD;
    }
    return shelf.hasRow ? OTHER_KIND : 0;
  }

  private int readersRefusal(Shelf shelf) {
    int refusal = byteRowRefusal(shelf);
    if (shelf == null || refusal != 0) {
      return refusal;
    }
    if (shelf.size > MOST_CALLED) {
      return NO_PLACE;
    }
    for (int place = 0; place < shelf.size; place++) {
      if (now.readerAt(shelf.valueAt(place)) == null) {
        return NO_PLACE;
      }
    }
    return 0;
  }

  private int readingsRefusal(Shelf shelf) {
    int refusal = byteRowRefusal(shelf);
    if (shelf == null || refusal != 0) {
      return refusal;
    }
    if (shelf.size % 2 != 0 || shelf.size > 2 * MOST_READINGS) {
      return NO_PLACE;
    }
    for (int at = 0; at < shelf.size; at += 2) {
      if (now.readerAt(shelf.valueAt(at)) == null || now.bookAt(shelf.valueAt(at + 1)) == null) {
        return NO_PLACE;
      }
    }
    return 0;
  }

  // ---- the form of a text

  /** How many digits stand behind a letter; -1 if no STATEMENT begins with it. */
  private static int digitsBehind(int letter) {
    switch (letter) {
      case 'b': return 1;
      case 'n': return 3;
      case 'r': return 2;
      case 'o': return 2;
      case 'x': return 2;
      default: return -1;
    }
  }

  /** The place of the first byte with which no TOWN can go on; NONE if the form is well. */
  private static int formFault(Shelf text) {
    boolean open = false;
    int digitsDue = 0;
    for (int at = 0; at < text.size; at++) {
      int sign = text.valueAt(at);
      if (!open) {
        digitsDue = digitsBehind(sign);
        if (digitsDue < 0) {
          return at;
        }
        open = true;
      } else if (digitsDue > 0) {
        if (sign < '0' || sign > '9') {
          return at;
        }
        digitsDue--;
      } else {
        if (sign != ';') {
          return at;
        }
        open = false;
      }
    }
    return open || text.size == 0 ? text.size : NONE;
  }

  // ---- readings in mind

  private void beginMind() {
    for (int book = 0; book < mind.length; book++) {
      Book told = now.bookAt(book);
      mind[book] = told == null ? 0 : told.in;
    }
  }

  private int readInMind(Reader who, int book) {
    Book told = now.bookAt(book);
    if (who == null || told == null || book < 0 || book >= mind.length) {
      return 0;
    }
    int value = who.worthOf(told, mind[book]);
    mind[book] &= ~who.tornPages(told, mind[book]);
    return value;
  }

  private int pagesInMind() {
    int pages = 0;
    for (int book = 0; book < mind.length; book++) {
      pages += Integer.bitCount(mind[book]);
    }
    return pages;
  }

  /** RUN by a ROW of READINGS: as if all were one reader's, if he is told; one may be left out. */
  private int sumInMind(Shelf readings, Reader all, int leftOut) {
    beginMind();
    int sum = 0;
    for (int at = 0; at + 1 < readings.size; at += 2) {
      int reader = readings.valueAt(at);
      if (reader != leftOut) {
        Reader who = all == null ? now.readerAt(reader) : all;
        sum += readInMind(who, readings.valueAt(at + 1));
      }
    }
    return sum;
  }

  /** What a ROW of READERS has of a book with some pages in, read in the ROW's order. */
  private int sumOfCalled(Shelf called, Book book, int in) {
    int sum = 0;
    int left = in;
    for (int place = 0; place < called.size; place++) {
      Reader who = now.readerAt(called.valueAt(place));
      if (who != null) {
        sum += who.worthOf(book, left);
        left &= ~who.tornPages(book, left);
      }
    }
    return sum;
  }

  /** WORTH never grows while pages go, so all readings behind the first without it have none. */
  private static int worthyReadings(Reader who, Book book, int in, int atMost) {
    int left = in;
    for (int reading = 0; reading < atMost; reading++) {
      if (who.worthOf(book, left) <= 0) {
        return reading;
      }
      left &= ~who.tornPages(book, left);
    }
    return atMost;
  }

  // ---- orders

  private int bestOrder(Shelf called, Book book, int what) {
    int size = Math.min(called.size, MOST_CALLED);
    for (int place = 0; place < size; place++) {
      order[place] = place;
    }
    orderIn[0] = book.in;
    orderSum[0] = 0;
    int best = -1;
    int digits = 0;
    int changed = 0;
    for (int tried = 0; tried < MOST_ORDERS && changed >= 0; tried++) {
      readOrderFrom(changed, size, called, book);
      if (orderSum[size] > best) {
        best = orderSum[size];
        digits = orderDigits(size);
      }
      changed = nextOrder(size);
    }
    return what == 0 ? best : digits;
  }

  /** An order that follows another keeps what was read ahead of the first place changed. */
  private void readOrderFrom(int changed, int size, Shelf called, Book book) {
    for (int k = Math.max(changed, 0); k < size && k < order.length; k++) {
      Reader who = now.readerAt(called.valueAt(order[k]));
      if (who != null) {
        orderSum[k + 1] = orderSum[k] + who.worthOf(book, orderIn[k]);
        orderIn[k + 1] = orderIn[k] & ~who.tornPages(book, orderIn[k]);
      }
    }
  }

  private int orderDigits(int size) {
    int digits = 0;
    for (int k = Math.min(size, order.length) - 1; k >= 0; k--) {
      digits = digits * 10 + order[k];
    }
    return digits;
  }

  /** The order that comes next by places: the first place that it changes; NONE behind the last. */
  private int nextOrder(int size) {
    int end = Math.min(size, order.length) - 1;
    int pivot = end - 1;
    while (pivot >= 0 && order[pivot] > order[pivot + 1]) {
      pivot--;
    }
    if (pivot < 0) {
      return NONE;
    }
    int greater = end;
    while (greater > pivot && order[greater] < order[pivot]) {
      greater--;
    }
    swapOrder(pivot, greater);
    int low = pivot + 1;
    int high = end;
    while (low < high) {
      swapOrder(low, high);
      low++;
      high--;
    }
    return pivot;
  }

  private void swapOrder(int one, int other) {
    if (one >= 0 && one < order.length && other >= 0 && other < order.length) {
      int kept = order[one];
      order[one] = order[other];
      order[other] = kept;
    }
  }

  // ---- draws, pages, kinds

  private static int nextSeed(int z) {
    return z * 1103515245 + 12345;
  }

  private static int drawBelow(int n, int z) {
    return n < 1 ? 0 : (z & 0x7fffffff) / 65536 % n;
  }

  private static int leastPage(int in) {
    for (int page = 0; page < PAGE_ROOM; page++) {
      if ((in >> page & 1) != 0) {
        return page;
      }
    }
    return NONE;
  }

  private static int greatestPage(int in) {
    for (int page = PAGE_ROOM - 1; page >= 0; page--) {
      if ((in >> page & 1) != 0) {
        return page;
      }
    }
    return NONE;
  }

  /** A READER of a KIND with a FIGURE; null if one of them isn't as told. */
  private static Reader readerOf(int kind, int figure) {
    if (figure < 0 || figure > MOST_FIGURE) {
      return null;
    }
    switch (kind) {
      case 0: return new Reader(figure);
      case 1: return new LastReader(figure);
      case 2: return new KindReader(figure);
      case 3: return new OwnReader(figure);
      case 4: return new FastReader(figure);
      case 5: return new BestReader(figure);
      case 6: return new ToldReader(figure);
      case 7: return new LeavesReader(figure);
      default: return null;
    }
  }

  /** No reader ever changes, so towns, shelves and the image may share one. */
  private static class Reader {
    final int figure;

    Reader(int figure) {
      this.figure = figure;
    }

    int kindNumber() {
      return 0;
    }

    int times() {
      return 1;
    }

    int worthOf(Book book, int in) {
      return Integer.bitCount(book.understoodOf(in)) * times();
    }

    int firstPage(Book book, int in) {
      return leastPage(in);
    }

    /** All pages that one reading takes, as bits. */
    int tornPages(Book book, int in) {
      int page = firstPage(book, in);
      return page < 0 ? 0 : 1 << page;
    }

    int feeOf() {
      return 3;
    }

    void fails() {
      if (figure != 0) {
        throw new IllegalStateException("the failure of a reader");
      }
    }

    int failureNumber() {
      return figure;
    }
  }

  private static class LastReader extends Reader {
    LastReader(int figure) {
      super(figure);
    }

    int kindNumber() {
      return 1;
    }

    int firstPage(Book book, int in) {
      return greatestPage(in);
    }

    int feeOf() {
      return super.feeOf() + figure;
    }
  }

  private static class KindReader extends Reader {
    KindReader(int figure) {
      super(figure);
    }

    int kindNumber() {
      return 2;
    }

    int times() {
      return super.times() + 1;
    }

    int firstPage(Book book, int in) {
      int best = NONE;
      int most = -1;
      for (int page = 0; page < PAGE_ROOM; page++) {
        if ((in >> page & 1) != 0) {
          int understood = Integer.bitCount(book.understoodOf(in & ~(1 << page)));
          if (prefers(understood, most)) {
            most = understood;
            best = page;
          }
        }
      }
      return best;
    }

    /** Of a page, behind which so many are understood, to the best one ahead of it. */
    boolean prefers(int understood, int most) {
      return understood > most;
    }

    int feeOf() {
      return super.feeOf() - 1;
    }
  }

  private static final class OwnReader extends LastReader {
    OwnReader(int figure) {
      super(figure);
    }

    int kindNumber() {
      return 3;
    }

    int worthOf(Book book, int in) {
      int own = book.ownPage(figure);
      boolean liked = own >= 0 && (book.understoodOf(in) >> own & 1) != 0;
      return super.worthOf(book, in) + (liked ? figure : 0);
    }

    int firstPage(Book book, int in) {
      int own = book.ownPage(figure);
      return own >= 0 && (in >> own & 1) != 0 ? own : super.firstPage(book, in);
    }

    int feeOf() {
      return 2 * super.feeOf();
    }

    int failureNumber() {
      return super.failureNumber() + 100;
    }
  }

  private static final class FastReader extends Reader {
    FastReader(int figure) {
      super(figure);
    }

    int kindNumber() {
      return 4;
    }

    int times() {
      return 2 * super.times();
    }

    int tornPages(Book book, int in) {
      int first = super.tornPages(book, in);
      return first | super.tornPages(book, in & ~first);
    }

    int feeOf() {
      return super.feeOf() * (figure + 1);
    }
  }

  private static final class BestReader extends KindReader {
    BestReader(int figure) {
      super(figure);
    }

    int kindNumber() {
      return 5;
    }

    boolean prefers(int understood, int most) {
      return understood >= most;
    }

    int feeOf() {
      return super.feeOf() + 6;
    }
  }

  private static final class ToldReader extends Reader {
    ToldReader(int figure) {
      super(figure);
    }

    int kindNumber() {
      return 6;
    }

    int worthOf(Book book, int in) {
      return super.worthOf(book, in) + figure;
    }

    int firstPage(Book book, int in) {
      return (in >> figure & 1) != 0 ? figure : super.firstPage(book, in);
    }

    int feeOf() {
      return super.feeOf() - figure;
    }

    void fails() {
      // TOLD ones have no failure, whatever their figure.
    }
  }

  private static final class LeavesReader extends KindReader {
    LeavesReader(int figure) {
      super(figure);
    }

    int kindNumber() {
      return 7;
    }

    int firstPage(Book book, int in) {
      return Integer.bitCount(in) <= figure ? NONE : super.firstPage(book, in);
    }

    int feeOf() {
      return 3 * super.feeOf();
    }

    int failureNumber() {
      return 200 + feeOf();
    }
  }

  private static final class Book {
    private final int[] needs = new int[PAGE_ROOM];
    private final int[] holders = new int[PAGE_ROOM];
    int pages = 0;
    /** PAGES that are IN, as bits; holders tell NONE of these. */
    int in = 0;

    void begins(int size) {
      pages = size;
      in = whole();
      for (int page = 0; page < PAGE_ROOM; page++) {
        needs[page] = NONE;
        holders[page] = NONE;
      }
    }

    void becomes(Book other) {
      pages = other.pages;
      in = other.in;
      System.arraycopy(other.needs, 0, needs, 0, PAGE_ROOM);
      System.arraycopy(other.holders, 0, holders, 0, PAGE_ROOM);
    }

    boolean hasPage(int page) {
      return page >= 0 && page < pages && page < PAGE_ROOM;
    }

    boolean isIn(int page) {
      return hasPage(page) && (in >> page & 1) != 0;
    }

    int whole() {
      return (1 << pages) - 1;
    }

    int needOf(int page) {
      return hasPage(page) ? needs[page] : NONE;
    }

    int holderOf(int page) {
      return hasPage(page) ? holders[page] : NONE;
    }

    boolean needsEarlier(int page, int earlier) {
      if (!hasPage(page) || earlier < 0 || earlier >= page) {
        return false;
      }
      needs[page] = earlier;
      return true;
    }

    boolean loses(int page, int holder) {
      if (!isIn(page)) {
        return false;
      }
      in &= ~(1 << page);
      holders[page] = holder;
      return true;
    }

    int heldBy(int reader) {
      int held = 0;
      for (int page = 0; page < PAGE_ROOM; page++) {
        if (holderOf(page) == reader) {
          held |= 1 << page;
        }
      }
      return held;
    }

    void takesBack(int back) {
      for (int page = 0; page < PAGE_ROOM; page++) {
        if (hasPage(page) && (back >> page & 1) != 0) {
          in |= 1 << page;
          holders[page] = NONE;
        }
      }
    }

    /** A page needs an earlier one, so that one is judged ahead of it. */
    int understoodOf(int some) {
      int understood = 0;
      for (int page = 0; page < PAGE_ROOM && some >> page != 0; page++) {
        int need = needs[page];
        if ((some >> page & 1) != 0 && (need < 0 || (understood >> need & 1) != 0)) {
          understood |= 1 << page;
        }
      }
      return understood;
    }

    int ownPage(int figure) {
      return pages < 1 ? NONE : figure % pages;
    }
  }

  private static final class Town {
    private final Book[] books = new Book[BOOK_ROOM];
    private final Reader[] readers = new Reader[READER_ROOM];
    int bookCount = 0;
    int readerCount = 0;
    int day = 0;

    Town() {
      for (int book = 0; book < books.length; book++) {
        books[book] = new Book();
      }
    }

    void becomes(Town other) {
      bookCount = other.bookCount;
      readerCount = other.readerCount;
      day = other.day;
      for (int book = 0; book < BOOK_ROOM; book++) {
        books[book].becomes(other.books[book]);
      }
      for (int reader = 0; reader < READER_ROOM; reader++) {
        readers[reader] = other.readers[reader];
      }
    }

    Book bookAt(int book) {
      return book >= 0 && book < bookCount && book < BOOK_ROOM ? books[book] : null;
    }

    Reader readerAt(int reader) {
      return reader >= 0 && reader < readerCount && reader < READER_ROOM ? readers[reader] : null;
    }

    /** The STATEMENT whose letter stands at a place: false, if it can't be done. */
    boolean does(Shelf text, int at) {
      int first = text.valueAt(at + 1) - '0';
      int second = text.valueAt(at + 2) - '0';
      Book book = bookAt(first);
      switch (text.valueAt(at)) {
        case 'b': return addsBook(first);
        case 'n': return book != null && book.needsEarlier(second, text.valueAt(at + 3) - '0');
        case 'r': return addsReader(readerOf(first, second));
        case 'o': return book != null && book.loses(second, NONE);
        case 'x': return reads(first, second) >= 0;
        default: return false;
      }
    }

    boolean addsBook(int pages) {
      if (pages < 1 || pages > PAGE_ROOM || bookCount >= BOOK_ROOM) {
        return false;
      }
      books[bookCount].begins(pages);
      bookCount++;
      return true;
    }

    boolean addsReader(Reader reader) {
      if (reader == null || readerCount >= READER_ROOM) {
        return false;
      }
      readers[readerCount] = reader;
      readerCount++;
      return true;
    }

    int reads(int reader, int number) {
      Reader who = readerAt(reader);
      Book book = bookAt(number);
      if (who == null || book == null) {
        return NO_SUCH;
      }
      int value = who.worthOf(book, book.in);
      int torn = who.tornPages(book, book.in);
      for (int page = 0; page < PAGE_ROOM; page++) {
        if ((torn >> page & 1) != 0) {
          book.loses(page, reader);
        }
      }
      day++;
      return value;
    }

    // Books that have not come have no pages, so what is counted may go over all of them.

    int takesBackFrom(int reader) {
      int back = 0;
      for (Book book : books) {
        int held = book.heldBy(reader);
        book.takesBack(held);
        back += Integer.bitCount(held);
      }
      return back;
    }

    int pagesHeldBy(int reader) {
      int held = 0;
      for (Book book : books) {
        held += Integer.bitCount(book.heldBy(reader));
      }
      return held;
    }

    int pagesIn() {
      int pages = 0;
      for (Book book : books) {
        pages += Integer.bitCount(book.in);
      }
      return pages;
    }

    int pagesInAll() {
      int pages = 0;
      for (Book book : books) {
        pages += book.pages;
      }
      return pages;
    }
  }

  /** Its elements are made once, and used by every ROW that the shelf gets. */
  private static final class Shelf {
    Reader reader = null;
    boolean hasRow = false;
    int sort = BYTES;
    int size = 0;
    final int[] elements = new int[ROW_ROOM];

    boolean isEmpty() {
      return !hasRow && reader == null;
    }

    void holdReader(Reader kept) {
      reader = kept;
      hasRow = false;
      size = 0;
    }

    void holdRow(int ofSort, int ofSize) {
      reader = null;
      hasRow = true;
      sort = ofSort;
      size = Math.min(ofSize, ROW_ROOM);
      for (int i = 0; i < ROW_ROOM; i++) {
        elements[i] = 0;
      }
    }

    int valueAt(int i) {
      return i >= 0 && i < size && i < ROW_ROOM ? elements[i] : 0;
    }

    boolean becomesAt(int i, int v) {
      if (i < 0 || i >= size || i >= ROW_ROOM) {
        return false;
      }
      switch (sort) {
        case BYTES:
          elements[i] = (byte) v;
          break;
        case SHORTS:
          elements[i] = (short) v;
          break;
        default:
          elements[i] = v;
          break;
      }
      return true;
    }
  }
}
