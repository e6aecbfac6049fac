/** Long runs of calls, made by seeds, on the class and on the model, must answer alike. */
public final class ModelTest {
  private static final int RUNS = 600;
  private static final int CALLS = 512;
  private static final int KINDS_OF_CALLS = 35;
  private static final int[] ODD = {
    -1, -2, 4, 5, 6, 7, 8, 9, 10, 24, 25, 99, 100, 101, 127, 128, 255, -128, -129, 32767, 32768,
    65536, 1 << 30, Integer.MAX_VALUE, Integer.MIN_VALUE
  };

  private static long state;
  private static int calls;
  private static int run;
  private static TakesAPage x;
  private static Model m;

  private static int below(int n) {
    state = state * 6364136223846793005L + 1442695040888963407L;
    return (int) ((state >>> 33) % n);
  }

  private static boolean once(int in) {
    return below(in) == 0;
  }

  /** Mostly a number below n, at times an odd one. */
  private static int some(int n) {
    return once(25) ? ODD[below(ODD.length)] : below(n);
  }

  private static int someReader() {
    return some(Math.max(1, m.s.readers.size()));
  }

  private static int someBook() {
    return some(Math.max(1, m.s.books.size()));
  }

  private static void due(String call, long got, long want) {
    calls++;
    Check.due("run " + run + ", call " + calls + ": " + call, got, want);
  }

  public static void main(String[] args) {
    for (run = 0; run < RUNS; run++) {
      state = run * 7919L + 12345;
      calls = 0;
      x = new TakesAPage();
      m = new Model();
      if (!once(20)) {
        tell(townText(2 + below(20)));
      }
      while (calls < CALLS) {
        step();
      }
    }
    Check.end("ModelTest");
  }

  private static void step() {
    if (once(30) && calls < CALLS - 110) {
      String text = townText(1 + below(4));
      if (once(2) && text.length() > 0) {
        int at = below(text.length());
        char[] odd = {'b', 'n', 'r', 'o', 'x', '0', '7', ';', ' ', 'q'};
        text = text.substring(0, at) + odd[below(odd.length)]
            + text.substring(Math.min(text.length(), at + below(2)));
      }
      if (once(5)) {
        text = text.substring(0, below(text.length() + 1));
      }
      tell(text);
    } else if (once(12) && calls < CALLS - 30) {
      readersRow(some(8));
    } else if (once(12) && calls < CALLS - 30) {
      readingsRow(some(8));
    } else if (once(25) && calls < CALLS - 40) {
      judgedRow(some(8));
    } else {
      call(below(KINDS_OF_CALLS));
    }
  }

  private static void tell(String text) {
    int d = below(8);
    int size = Math.min(100, text.length());
    due("row", x.row(d, 0, size), m.row(d, 0, size));
    for (int i = 0; i < size; i++) {
      due("put", x.put(d, i, text.charAt(i)), m.put(d, i, text.charAt(i)));
    }
    due("town " + text, x.town(d), m.town(d));
  }

  private static void readersRow(int d) {
    int n = once(20) ? 7 : below(7);
    due("row", x.row(d, 0, n), m.row(d, 0, n));
    for (int i = 0; i < n; i++) {
      int v = someReader();
      due("put", x.put(d, i, v), m.put(d, i, v));
    }
    int book = someBook();
    int what = some(2);
    due("most", x.most(book, d, what), m.most(book, d, what));
    due("spoils", x.spoils(book, d, what), m.spoils(book, d, what));
    due("gaps", x.gaps(book, d, what), m.gaps(book, d, what));
  }

  private static void readingsRow(int d) {
    int n = once(20) ? 26 : once(20) ? 5 : 2 * below(13);
    due("row", x.row(d, 0, n), m.row(d, 0, n));
    for (int i = 0; i < n; i++) {
      int v = i % 2 == 0 ? someReader() : someBook();
      due("put", x.put(d, i, v), m.put(d, i, v));
    }
    int what = some(2);
    int reader = someReader();
    int kind = some(8);
    int figure = some(10);
    due("run", x.run(d, what), m.run(d, what));
    due("law", x.law(d, kind, figure), m.law(d, kind, figure));
    due("without", x.without(reader, d), m.without(reader, d));
  }

  private static void judgedRow(int d) {
    int n = below(13);
    int sort = some(3);
    due("row", x.row(d, sort, n), m.row(d, sort, n));
    Model.State mind = m.s.twin();
    for (int i = 0; i + 2 < n; i += 3) {
      int reader = someReader();
      int book = someBook();
      boolean there = !m.noReader(reader) && !m.noBook(book);
      int worth = there && !once(9) ? mind.read(reader, book) : some(20);
      due("put", x.put(d, i, reader), m.put(d, i, reader));
      due("put", x.put(d, i + 1, book), m.put(d, i + 1, book));
      due("put", x.put(d, i + 2, worth), m.put(d, i + 2, worth));
    }
    due("judge", x.judge(d), m.judge(d));
  }

  /** Mostly well: what it tells of is counted along, so that most of it can be done. */
  private static String townText(int statements) {
    StringBuilder text = new StringBuilder();
    int books = m.s.books.size();
    int readers = m.s.readers.size();
    for (int k = 0; k < statements && text.length() < 95; k++) {
      int kind = below(12);
      if (books == 0 || kind < 2 && (books < 4 || once(30))) {
        text.append('b').append((char) ('0' + (once(30) ? below(10) : 1 + below(8)))).append(';');
        books++;
      } else if (readers == 0 || kind < 6 && (readers < 6 || once(30))) {
        text.append('r').append((char) ('0' + (once(30) ? below(10) : below(8))));
        text.append((char) ('0' + below(10))).append(';');
        readers++;
      } else if (kind < 10) {
        int page = 1 + below(once(20) ? 9 : 3);
        text.append('n').append((char) ('0' + below(Math.min(10, books))));
        text.append((char) ('0' + page)).append((char) ('0' + below(page + (once(20) ? 1 : 0))));
        text.append(';');
      } else if (kind == 10) {
        text.append('o').append((char) ('0' + below(Math.min(10, books))));
        text.append((char) ('0' + below(4))).append(';');
      } else {
        text.append('x').append((char) ('0' + below(Math.min(10, readers))));
        text.append((char) ('0' + below(Math.min(10, books)))).append(';');
      }
    }
    return text.toString();
  }

  private static void call(int which) {
    int r = someReader();
    int q = someReader();
    int b = someBook();
    int c = someBook();
    int d = some(8);
    int e = some(8);
    int p = some(8);
    int w = some(3);
    int u = some(2);
    int n = 1 + some(40);
    int f = some(10);
    int i = some(12);
    int j = some(12);
    switch (which) {
      case 0: due("town " + d, x.town(d), m.town(d)); break;
      case 1: due("book " + b + " " + w, x.book(b, w), m.book(b, w)); break;
      case 2: due("page " + b + " " + p + " " + w, x.page(b, p, w), m.page(b, p, w)); break;
      case 3: due("reader " + r + " " + w, x.reader(r, w), m.reader(r, w)); break;
      case 4: due("understands " + b, x.understands(b), m.understands(b)); break;
      case 5: due("worth " + r + " " + b, x.worth(r, b), m.worth(r, b)); break;
      case 6: due("takes " + r + " " + b, x.takes(r, b), m.takes(r, b)); break;
      case 7: due("read " + r + " " + b, x.read(r, b), m.read(r, b)); break;
      case 8: due("brings " + r, x.brings(r), m.brings(r)); break;
      case 9: due("run " + d + " " + u, x.run(d, u), m.run(d, u)); break;
      case 10: due("most " + b + " " + d + " " + u, x.most(b, d, u), m.most(b, d, u)); break;
      case 11: due("spoils " + b + " " + d + " " + u, x.spoils(b, d, u), m.spoils(b, d, u)); break;
      case 12: due("lasts " + r + " " + b, x.lasts(r, b), m.lasts(r, b)); break;
      case 13: due("law " + d + " " + p + " " + f, x.law(d, p, f), m.law(d, p, f)); break;
      case 14: due("without " + r + " " + d, x.without(r, d), m.without(r, d)); break;
      case 15: due("has " + r + " " + b, x.has(r, b), m.has(r, b)); break;
      case 16: due("together " + b, x.together(b), m.together(b)); break;
      case 17: due("copies " + b + " " + c, x.copies(b, c), m.copies(b, c)); break;
      case 18: due("gaps " + b + " " + d + " " + u, x.gaps(b, d, u), m.gaps(b, d, u)); break;
      case 19: due("turns " + r + " " + q + " " + b, x.turns(r, q, b), m.turns(r, q, b)); break;
      case 20: due("price " + r + " " + b + " " + p, x.price(r, b, p), m.price(r, b, p)); break;
      case 21: due("howMany " + r + " " + b + " " + n, x.howMany(r, b, n), m.howMany(r, b, n)); break;
      case 22: due("seeded " + n, x.seeded(n, (int) state), m.seeded(n, (int) state)); break;
      case 23: due("judge " + d, x.judge(d), m.judge(d)); break;
      case 24: if (once(3)) due("image", x.image(), m.image()); break;
      case 25: if (once(3)) due("restore", x.restore(), m.restore()); break;
      case 26: due("count " + p, x.count(p), m.count(p)); break;
      case 27: due("keep " + d + " " + u, x.keep(d, u, p, f), m.keep(d, u, p, f)); break;
      case 28: if (once(3)) due("row " + d, x.row(d, w, i), m.row(d, w, i)); break;
      case 29: due("put " + d + " " + i, x.put(d, i, f), m.put(d, i, f)); break;
      case 30: due("element " + d + " " + i, Check.element(x, d, i), m.element(d, i)); break;
      case 31: due("copy", x.copy(d, i, e, j, p), m.copy(d, i, e, j, p)); break;
      case 32: due("comes " + d, x.comes(d), m.comes(d)); break;
      case 33: due("fee " + d, x.fee(d), m.fee(d)); break;
      default: due("toss " + d, x.toss(d), m.toss(d)); break;
    }
  }
}
