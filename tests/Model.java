import java.util.ArrayList;
import java.util.List;

/**
 * The document once more, as slowly and as much to its letter as can be, to be held against the
 * class: whole towns are copied for all that happens in mind, orders are tried one and all, copies
 * are read one by one.
 */
final class Model {
  static final class PageM {
    boolean in = true;
    int need = -4;
    int holder = -4;
  }

  static final class ReaderM {
    final int kind;
    final int figure;

    ReaderM(int kind, int figure) {
      this.kind = kind;
      this.figure = figure;
    }
  }

  static final class State {
    final List<List<PageM>> books = new ArrayList<>();
    final List<ReaderM> readers = new ArrayList<>();
    int day = 0;

    State twin() {
      State t = new State();
      for (List<PageM> book : books) {
        t.books.add(twinOf(book));
      }
      t.readers.addAll(readers);
      t.day = day;
      return t;
    }

    int out() {
      int n = 0;
      for (List<PageM> book : books) {
        for (PageM p : book) {
          n += p.in ? 0 : 1;
        }
      }
      return n;
    }

    int read(int reader, int book) {
      int worth = worthFor(readers.get(reader), books.get(book));
      for (int page : taken(readers.get(reader), books.get(book))) {
        books.get(book).get(page).in = false;
        books.get(book).get(page).holder = reader;
      }
      day++;
      return worth;
    }
  }

  static List<PageM> twinOf(List<PageM> book) {
    List<PageM> t = new ArrayList<>();
    for (PageM p : book) {
      PageM q = new PageM();
      q.in = p.in;
      q.need = p.need;
      q.holder = p.holder;
      t.add(q);
    }
    return t;
  }

  static boolean isUnderstood(List<PageM> book, int page) {
    PageM p = book.get(page);
    return p.in && (p.need == -4 || isUnderstood(book, p.need));
  }

  static int understoodCount(List<PageM> book) {
    int n = 0;
    for (int p = 0; p < book.size(); p++) {
      n += isUnderstood(book, p) ? 1 : 0;
    }
    return n;
  }

  static int timesOf(int kind) {
    switch (kind) {
      case 0: return 1;
      case 1: return timesOf(0);
      case 2: return timesOf(0) + 1;
      case 3: return timesOf(1);
      case 4: return 2 * timesOf(0);
      case 5: return timesOf(2);
      case 6: return timesOf(0);
      default: return timesOf(2);
    }
  }

  static int worthFor(ReaderM r, List<PageM> book) {
    int worth = understoodCount(book) * timesOf(r.kind);
    if (r.kind == 3 && isUnderstood(book, r.figure % book.size())) {
      worth += r.figure;
    }
    if (r.kind == 6) {
      worth += r.figure;
    }
    return worth;
  }

  static List<Integer> pagesIn(List<PageM> book) {
    List<Integer> in = new ArrayList<>();
    for (int p = 0; p < book.size(); p++) {
      if (book.get(p).in) {
        in.add(p);
      }
    }
    return in;
  }

  static int behind(List<PageM> book, int page) {
    List<PageM> t = twinOf(book);
    t.get(page).in = false;
    return understoodCount(t);
  }

  static int firstOf(int kind, int figure, List<PageM> book) {
    List<Integer> in = pagesIn(book);
    if (in.isEmpty()) {
      return -4;
    }
    switch (kind) {
      case 0:
      case 4:
        return in.get(0);
      case 1:
        return in.get(in.size() - 1);
      case 2:
      case 5: {
        int most = 0;
        for (int p : in) {
          most = Math.max(most, behind(book, p));
        }
        int found = -4;
        for (int p : in) {
          if (behind(book, p) == most && (kind == 5 || found == -4)) {
            found = p;
          }
        }
        return found;
      }
      case 3:
        return in.contains(figure % book.size()) ? figure % book.size() : firstOf(1, figure, book);
      case 6:
        return in.contains(figure) ? figure : firstOf(0, figure, book);
      default:
        return in.size() <= figure ? -4 : firstOf(2, figure, book);
    }
  }

  static List<Integer> taken(ReaderM r, List<PageM> book) {
    List<Integer> taken = new ArrayList<>();
    int first = firstOf(r.kind, r.figure, book);
    if (first >= 0) {
      taken.add(first);
    }
    if (r.kind == 4 && first >= 0) {
      for (int p : pagesIn(book)) {
        if (p > first) {
          taken.add(p);
          break;
        }
      }
    }
    return taken;
  }

  static int feeFor(int kind, int figure) {
    switch (kind) {
      case 0: return 3;
      case 1: return feeFor(0, figure) + figure;
      case 2: return feeFor(0, figure) - 1;
      case 3: return 2 * feeFor(1, figure);
      case 4: return feeFor(0, figure) * (figure + 1);
      case 5: return feeFor(2, figure) + 6;
      case 6: return feeFor(0, figure) - figure;
      default: return 3 * feeFor(2, figure);
    }
  }

  State s = new State();
  State imaged = null;
  final Object[] shelves = new Object[8];

  // ROWS are arrays of their sorts here, so that Java itself cuts what is put in.

  boolean noShelf(int d) {
    return d < 0 || d > 7;
  }

  boolean noBook(int b) {
    return b < 0 || b >= s.books.size();
  }

  boolean noReader(int r) {
    return r < 0 || r >= s.readers.size();
  }

  static int size(Object row) {
    return java.lang.reflect.Array.getLength(row);
  }

  static int at(Object row, int i) {
    return (int) java.lang.reflect.Array.getLong(row, i);
  }

  int held(int d, boolean bytesAlone) {
    if (shelves[d] == null) {
      return -11;
    }
    if (shelves[d] instanceof ReaderM || bytesAlone && !(shelves[d] instanceof byte[])) {
      return -12;
    }
    return 0;
  }

  int readersRow(int d) {
    int r = held(d, true);
    if (r != 0) {
      return r;
    }
    byte[] row = (byte[]) shelves[d];
    if (row.length > 6) {
      return -13;
    }
    for (byte b : row) {
      if (noReader(b)) {
        return -13;
      }
    }
    return 0;
  }

  int readingsRow(int d) {
    int r = held(d, true);
    if (r != 0) {
      return r;
    }
    byte[] row = (byte[]) shelves[d];
    if (row.length % 2 == 1 || row.length > 24) {
      return -13;
    }
    for (int i = 0; i < row.length; i += 2) {
      if (noReader(row[i]) || noBook(row[i + 1])) {
        return -13;
      }
    }
    return 0;
  }

  int town(int d) {
    if (noShelf(d)) {
      return -1;
    }
    int r = held(d, true);
    if (r != 0) {
      return r;
    }
    byte[] text = (byte[]) shelves[d];
    String letters = "bnrox";
    int[] digits = {1, 3, 2, 2, 2};
    List<Integer> heads = new ArrayList<>();
    int at = 0;
    do {
      if (at >= text.length || letters.indexOf(text[at]) < 0) {
        return -1000 - at;
      }
      heads.add(at);
      int due = digits[letters.indexOf(text[at])];
      at++;
      for (int k = 0; k < due; k++, at++) {
        if (at >= text.length || !Character.isDigit(text[at])) {
          return -1000 - at;
        }
      }
      if (at >= text.length || text[at] != ';') {
        return -1000 - at;
      }
      at++;
    } while (at < text.length);
    State kept = s;
    s = s.twin();
    for (int head : heads) {
      if (!statement(text, head)) {
        s = kept;
        return -2000 - head;
      }
    }
    return heads.size();
  }

  boolean statement(byte[] text, int head) {
    int a = text[head + 1] - '0';
    int b = text[head + 2] - '0';
    switch (text[head]) {
      case 'b': {
        if (a < 1 || a > 8 || s.books.size() == 4) {
          return false;
        }
        List<PageM> book = new ArrayList<>();
        for (int p = 0; p < a; p++) {
          book.add(new PageM());
        }
        s.books.add(book);
        return true;
      }
      case 'n': {
        int c = text[head + 3] - '0';
        if (noBook(a) || b >= s.books.get(a).size() || c >= b) {
          return false;
        }
        s.books.get(a).get(b).need = c;
        return true;
      }
      case 'r':
        if (a > 7 || s.readers.size() == 6) {
          return false;
        }
        s.readers.add(new ReaderM(a, b));
        return true;
      case 'o':
        if (noBook(a) || b >= s.books.get(a).size() || !s.books.get(a).get(b).in) {
          return false;
        }
        s.books.get(a).get(b).in = false;
        return true;
      default:
        if (noReader(a) || noBook(b)) {
          return false;
        }
        s.read(a, b);
        return true;
    }
  }

  int book(int b, int what) {
    if (noBook(b) || what < 0 || what > 2) {
      return -1;
    }
    List<PageM> book = s.books.get(b);
    int bits = 0;
    for (int p : pagesIn(book)) {
      bits += 1 << p;
    }
    return what == 0 ? book.size() : what == 1 ? pagesIn(book).size() : bits;
  }

  int page(int b, int p, int what) {
    if (noBook(b) || p < 0 || p >= s.books.get(b).size() || what < 0 || what > 2) {
      return -1;
    }
    PageM page = s.books.get(b).get(p);
    return what == 0 ? (page.in ? 1 : 0) : what == 1 ? page.need : page.in ? -4 : page.holder;
  }

  int reader(int r, int what) {
    if (noReader(r) || what < 0 || what > 2) {
      return -1;
    }
    int held = 0;
    for (int b = 0; b < s.books.size(); b++) {
      held += Integer.bitCount(has(r, b));
    }
    return what == 0 ? s.readers.get(r).kind : what == 1 ? s.readers.get(r).figure : held;
  }

  int understands(int b) {
    if (noBook(b)) {
      return -1;
    }
    int bits = 0;
    for (int p = 0; p < s.books.get(b).size(); p++) {
      bits += isUnderstood(s.books.get(b), p) ? 1 << p : 0;
    }
    return bits;
  }

  int worth(int r, int b) {
    return noReader(r) || noBook(b) ? -1 : worthFor(s.readers.get(r), s.books.get(b));
  }

  int takes(int r, int b) {
    if (noReader(r) || noBook(b)) {
      return -1;
    }
    List<Integer> taken = taken(s.readers.get(r), s.books.get(b));
    return taken.isEmpty() ? -4 : taken.get(0);
  }

  int read(int r, int b) {
    return noReader(r) || noBook(b) ? -1 : s.read(r, b);
  }

  int brings(int r) {
    if (noReader(r)) {
      return -1;
    }
    int n = 0;
    for (List<PageM> book : s.books) {
      for (PageM p : book) {
        if (!p.in && p.holder == r) {
          p.in = true;
          p.holder = -4;
          n++;
        }
      }
    }
    return n;
  }

  int[] runOf(State t, byte[] row, int leftOut) {
    int sum = 0;
    for (int i = 0; i < row.length; i += 2) {
      if (row[i] != leftOut) {
        sum += t.read(row[i], row[i + 1]);
      }
    }
    return new int[] {sum, t.out()};
  }

  int run(int d, int what) {
    if (noShelf(d) || what < 0 || what > 1) {
      return -1;
    }
    int r = readingsRow(d);
    return r != 0 ? r : runOf(s.twin(), (byte[]) shelves[d], -99)[what];
  }

  int bestSum;
  int bestDigits;

  void orders(byte[] row, List<Integer> order, int book) {
    if (order.size() == row.length) {
      State t = s.twin();
      int sum = 0;
      int digits = 0;
      int ten = 1;
      for (int place : order) {
        sum += t.read(row[place], book);
        digits += place * ten;
        ten *= 10;
      }
      if (sum > bestSum) {
        bestSum = sum;
        bestDigits = digits;
      }
      return;
    }
    for (int place = 0; place < row.length; place++) {
      if (!order.contains(place)) {
        order.add(place);
        orders(row, order, book);
        order.remove(order.size() - 1);
      }
    }
  }

  int most(int b, int d, int what) {
    if (noBook(b) || noShelf(d) || what < 0 || what > 1) {
      return -1;
    }
    int r = readersRow(d);
    if (r != 0) {
      return r;
    }
    bestSum = -1;
    orders((byte[]) shelves[d], new ArrayList<>(), b);
    return what == 0 ? bestSum : bestDigits;
  }

  int sumWithout(int b, int page, byte[] row) {
    State t = s.twin();
    if (page >= 0) {
      t.books.get(b).get(page).in = false;
    }
    int sum = 0;
    for (byte reader : row) {
      sum += t.read(reader, b);
    }
    return sum;
  }

  int spoils(int b, int d, int what) {
    if (noBook(b) || noShelf(d) || what < 0 || what > 1) {
      return -1;
    }
    int r = readersRow(d);
    if (r != 0) {
      return r;
    }
    int page = -4;
    for (int p : pagesIn(s.books.get(b))) {
      if (page == -4
          || sumWithout(b, p, (byte[]) shelves[d]) > sumWithout(b, page, (byte[]) shelves[d])) {
        page = p;
      }
    }
    return what == 0 ? page : sumWithout(b, page, (byte[]) shelves[d]);
  }

  int lasts(int r, int b) {
    if (noReader(r) || noBook(b)) {
      return -1;
    }
    State t = s.twin();
    int n = 0;
    for (int k = 0; k < 30; k++) {
      n += t.read(r, b) > 0 ? 1 : 0;
    }
    return n;
  }

  int law(int d, int kind, int figure) {
    if (noShelf(d) || kind < 0 || kind > 7 || figure < 0 || figure > 9) {
      return -1;
    }
    int r = readingsRow(d);
    if (r != 0) {
      return r;
    }
    State t = s.twin();
    for (int k = 0; k < t.readers.size(); k++) {
      t.readers.set(k, new ReaderM(kind, figure));
    }
    return runOf(t, (byte[]) shelves[d], -99)[0];
  }

  int without(int reader, int d) {
    if (noReader(reader) || noShelf(d)) {
      return -1;
    }
    int r = readingsRow(d);
    return r != 0 ? r : runOf(s.twin(), (byte[]) shelves[d], reader)[0];
  }

  int has(int r, int b) {
    if (noReader(r) || noBook(b)) {
      return -1;
    }
    int bits = 0;
    for (int p = 0; p < s.books.get(b).size(); p++) {
      PageM page = s.books.get(b).get(p);
      bits += !page.in && page.holder == r ? 1 << p : 0;
    }
    return bits;
  }

  int together(int b) {
    if (noBook(b)) {
      return -1;
    }
    int bits = 0;
    for (PageM p : s.books.get(b)) {
      if (!p.in && p.holder == -4) {
        return -4;
      }
      bits |= p.in ? 0 : 1 << p.holder;
    }
    return bits;
  }

  int copies(int one, int other) {
    if (noBook(one) || noBook(other) || one == other) {
      return -1;
    }
    return book(one, 0) != book(other, 0) ? -4 : book(one, 2) | book(other, 2);
  }

  List<PageM> wholeOf(int b) {
    List<PageM> whole = twinOf(s.books.get(b));
    for (PageM p : whole) {
      p.in = true;
    }
    return whole;
  }

  int gaps(int b, int d, int what) {
    if (noBook(b) || noShelf(d) || what < 0 || what > 1) {
      return -1;
    }
    int r = readersRow(d);
    if (r != 0) {
      return r;
    }
    byte[] row = (byte[]) shelves[d];
    List<Integer> out = new ArrayList<>();
    for (int p = 0; p < s.books.get(b).size(); p++) {
      if (!s.books.get(b).get(p).in) {
        out.add(p);
      }
    }
    List<Integer> places = new ArrayList<>();
    for (int k = 0; k < row.length; k++) {
      if (taken(s.readers.get(row[k]), wholeOf(b)).equals(out)) {
        places.add(k);
      }
    }
    return what == 0 ? places.size() : places.isEmpty() ? -4 : places.get(0);
  }

  int turns(int one, int other, int b) {
    if (noReader(one) || noReader(other) || noBook(b)) {
      return -1000000001;
    }
    State t = s.twin();
    int ahead = 0;
    for (int k = 0; k < 16 && !pagesIn(t.books.get(b)).isEmpty(); k++) {
      ahead += k % 2 == 0 ? t.read(one, b) : -t.read(other, b);
    }
    return ahead;
  }

  int price(int r, int b, int p) {
    if (noReader(r) || noBook(b) || p < 0 || p >= s.books.get(b).size()) {
      return -1000000001;
    }
    if (!s.books.get(b).get(p).in) {
      return -1000000003;
    }
    State t = s.twin();
    t.books.get(b).get(p).in = false;
    return worth(r, b) - worthFor(t.readers.get(r), t.books.get(b));
  }

  int howMany(int r, int b, int n) {
    if (noReader(r) || noBook(b) || n < 1 || n > 40) {
      return -1;
    }
    for (int many = 1; many <= 9; many++) {
      List<List<PageM>> copies = new ArrayList<>();
      for (int k = 0; k < many; k++) {
        copies.add(wholeOf(b));
      }
      boolean all = true;
      for (int k = 0; k < n && all; k++) {
        List<PageM> best = copies.get(0);
        for (List<PageM> copy : copies) {
          if (worthFor(s.readers.get(r), copy) > worthFor(s.readers.get(r), best)) {
            best = copy;
          }
        }
        all = worthFor(s.readers.get(r), best) > 0;
        for (int page : taken(s.readers.get(r), best)) {
          best.get(page).in = false;
        }
      }
      if (all) {
        return many;
      }
    }
    return -4;
  }

  int seeded(int n, int z) {
    if (n < 1 || n > 40) {
      return -1;
    }
    if (s.readers.isEmpty() || s.books.isEmpty()) {
      return -3;
    }
    State t = s.twin();
    int sum = 0;
    for (int k = 0; k < n; k++) {
      z = z * 1103515245 + 12345;
      int reader = ((z << 1 >>> 1) >> 16) % t.readers.size();
      z = z * 1103515245 + 12345;
      sum += t.read(reader, ((z << 1 >>> 1) >> 16) % t.books.size());
    }
    return sum;
  }

  int judge(int d) {
    if (noShelf(d)) {
      return -1;
    }
    int r = held(d, false);
    if (r != 0) {
      return r;
    }
    Object row = shelves[d];
    State t = s.twin();
    int at = 0;
    for (; at + 3 <= size(row); at += 3) {
      if (noReader(at(row, at))) {
        return at;
      }
      if (noBook(at(row, at + 1))) {
        return at + 1;
      }
      if (t.read(at(row, at), at(row, at + 1)) != at(row, at + 2)) {
        return at + 2;
      }
    }
    return at < size(row) ? at : -4;
  }

  int image() {
    imaged = s.twin();
    return s.day;
  }

  int restore() {
    if (imaged == null) {
      return -3;
    }
    s = imaged.twin();
    return s.day;
  }

  int count(int what) {
    int in = 0;
    for (List<PageM> book : s.books) {
      in += pagesIn(book).size();
    }
    switch (what) {
      case 0: return s.books.size();
      case 1: return s.readers.size();
      case 2: return s.day;
      case 3: return in;
      case 4: return s.out();
      default: return -1;
    }
  }

  int keep(int d, int what, int k, int figure) {
    if (noShelf(d) || what != 0 && (what != 1 || k < 0 || k > 7 || figure < 0 || figure > 9)) {
      return -1;
    }
    shelves[d] = what == 0 ? null : new ReaderM(k, figure);
    return 0;
  }

  int row(int d, int sort, int n) {
    if (noShelf(d) || sort < 0 || sort > 2 || n > 100) {
      return -1;
    }
    if (n < 0) {
      return -14;
    }
    shelves[d] = sort == 0 ? new byte[n] : sort == 1 ? new short[n] : (Object) new int[n];
    return 0;
  }

  int put(int d, int i, int v) {
    if (noShelf(d)) {
      return -1;
    }
    int r = held(d, false);
    if (r != 0) {
      return r;
    }
    if (i < 0 || i >= size(shelves[d])) {
      return -13;
    }
    if (shelves[d] instanceof byte[]) {
      ((byte[]) shelves[d])[i] = (byte) v;
    } else if (shelves[d] instanceof short[]) {
      ((short[]) shelves[d])[i] = (short) v;
    } else {
      ((int[]) shelves[d])[i] = v;
    }
    return 0;
  }

  /** As Check.element tells it. */
  long element(int d, int i) {
    if (noShelf(d)) {
      return Long.MIN_VALUE + 1;
    }
    if (held(d, false) != 0 || i < 0 || i >= size(shelves[d])) {
      return Long.MIN_VALUE + 2;
    }
    return at(shelves[d], i);
  }

  int copy(int d, int i, int e, int j, int n) {
    if (noShelf(d) || noShelf(e)) {
      return -1;
    }
    if (shelves[d] == null || shelves[e] == null) {
      return -11;
    }
    if (held(d, false) != 0 || shelves[d].getClass() != shelves[e].getClass()) {
      return -12;
    }
    long from = size(shelves[d]);
    long to = size(shelves[e]);
    if (n < 0 || i < 0 || j < 0 || (long) i + n > from || (long) j + n > to) {
      return -13;
    }
    System.arraycopy(shelves[d], i, shelves[e], j, n);
    return n;
  }

  int readerOn(int d) {
    return noShelf(d) ? -1 : shelves[d] == null ? -11 : shelves[d] instanceof ReaderM ? 0 : -12;
  }

  int comes(int d) {
    if (readerOn(d) != 0) {
      return readerOn(d);
    }
    if (s.readers.size() == 6) {
      return -2;
    }
    s.readers.add((ReaderM) shelves[d]);
    return s.readers.size() - 1;
  }

  int fee(int d) {
    return readerOn(d) != 0 ? readerOn(d)
        : feeFor(((ReaderM) shelves[d]).kind, ((ReaderM) shelves[d]).figure);
  }

  int toss(int d) {
    if (readerOn(d) != 0) {
      return readerOn(d);
    }
    ReaderM r = (ReaderM) shelves[d];
    if (r.kind == 6 || r.figure == 0) {
      return -15;
    }
    return r.kind == 3 ? r.figure + 100 : r.kind == 7 ? 200 + feeFor(7, r.figure) : r.figure;
  }
}
