/** Promises 21 to 25: turns, prices, copies enough, years by seeds, told days. */
public final class YearsTest {
  public static void main(String[] args) {
    turns();
    prices();
    howMany();
    seeds();
    judging();
    Check.end("YearsTest");
  }

  private static void turns(String text, int want) {
    TakesAPage x = Check.made(text);
    Check.due("turns " + text, x.turns(0, 1, 0), want);
    Check.due("nothing stays", x.count(2) + x.book(0, 0) - x.book(0, 1), 0);
  }

  private static void turns() {
    turns("b3;r00;r10;", 3 - 2 + 1);
    turns("b3;r00;r69;", 3 - 11 + 1);
    turns("b3;r69;r00;", 12 - 2 + 10);
    turns("b3;r72;r79;", 6 + 7 * 4 - 8 * 4);
    turns("b8;r79;r00;", 16 - 8 + 14 - 7 + 12 - 6 + 10 - 5 + 8 - 4 + 6 - 3 + 4 - 2 + 2 - 1);
    turns("b1;r00;r00;", 1);
    TakesAPage x = Check.made("b3;r00;r10;");
    Check.due("one reader twice", x.turns(1, 1, 0), 2);
    Check.due("no first", x.turns(2, 0, 0), -1000000001);
    Check.due("no other", x.turns(0, 2, 0), -1000000001);
    Check.due("no book", x.turns(0, 1, 1), -1000000001);
    Check.due("first -1", x.turns(-1, 0, 0), -1000000001);
    Check.due("other -1", x.turns(0, -1, 0), -1000000001);
    Check.due("book -1", x.turns(0, 1, -1), -1000000001);
    Check.due("none in", Check.made("b1;o00;r65;r00;").turns(0, 1, 0), 0);
  }

  private static void prices() {
    TakesAPage x = Check.made("b3;b1;n010;n020;r00;r20;r34;r65;");
    Check.due("the root", x.price(0, 0, 0), 3);
    Check.due("a leaf", x.price(0, 0, 1), 1);
    Check.due("for a kind one", x.price(1, 0, 0), 6);
    Check.due("his own", x.price(2, 0, 1), 5);
    Check.due("not his own", x.price(2, 0, 2), 1);
    Check.due("what his own needs", x.price(2, 0, 0), 7);
    Check.due("a told one", x.price(3, 0, 0), 3);
    Check.due("nothing stays", x.book(0, 2), 7);
    Check.due("no reader", x.price(4, 0, 0), -1000000001);
    Check.due("no book", x.price(0, 2, 0), -1000000001);
    Check.due("no page", x.price(0, 0, 3), -1000000001);
    Check.due("page -1", x.price(0, 0, -1), -1000000001);
    Check.due("no page of this book", x.price(0, 1, 1), -1000000001);
    x.read(0, 0);
    Check.due("it is out", x.price(0, 0, 0), -1000000003);
    Check.due("in and not understood", x.price(0, 0, 1), 0);
    Check.due("no reader goes ahead", x.price(4, 0, 0), -1000000001);
  }

  private static void howMany(String text, int n, int want) {
    TakesAPage x = Check.made(text);
    Check.due("howMany " + text + " " + n, x.howMany(0, 0, n), want);
    Check.due("nothing stays", x.count(2), 0);
  }

  private static void howMany() {
    howMany("b4;r00;", 1, 1);
    howMany("b4;r00;", 4, 1);
    howMany("b4;r00;", 5, 2);
    howMany("b4;r00;", 36, 9);
    howMany("b4;r00;", 37, -4);
    howMany("b8;r00;", 40, 5);
    howMany("b8;r40;", 36, 9);
    howMany("b8;r40;", 37, -4);
    howMany("b1;r71;", 40, 1);
    howMany("b1;r61;", 40, 1);
    howMany("b4;o00;o01;r00;", 4, 1);
    howMany("b3;n010;n020;r00;", 9, 9);
    howMany("b3;n010;n020;r00;", 10, -4);
    TakesAPage x = Check.made("b4;r00;");
    Check.due("n 0", x.howMany(0, 0, 0), -1);
    Check.due("n 41", x.howMany(0, 0, 41), -1);
    Check.due("n -1", x.howMany(0, 0, -1), -1);
    Check.due("no reader", x.howMany(1, 0, 1), -1);
    Check.due("no book", x.howMany(0, 1, 1), -1);
    Check.due("reader -1", x.howMany(-1, 0, 1), -1);
    Check.due("book -1", x.howMany(0, -1, 1), -1);
  }

  private static void seeds() {
    TakesAPage x = Check.made("b1;r69;");
    Check.due("one reader, one book", x.seeded(3, 77), 10 + 9 + 9);
    Check.due("forty days", x.seeded(40, -5), 10 + 39 * 9);
    Check.due("one day", x.seeded(1, 0), 10);
    x = Check.made("r60;r61;r62;r63;r64;r65;b1;b2;b3;b4;");
    int[] seeds = {0, 1, 5, -1, 77777, Integer.MAX_VALUE, Integer.MIN_VALUE};
    for (int seed : seeds) {
      long z = seed;
      z = (z * 1103515245L + 12345L) & 0xffffffffL;
      long reader = ((z & 0x7fffffffL) / 65536) % 6;
      z = (z * 1103515245L + 12345L) & 0xffffffffL;
      long book = ((z & 0x7fffffffL) / 65536) % 4;
      Check.due("seed " + seed, x.seeded(1, seed), reader + book + 1);
    }
    Check.due("nothing stays", x.count(2) + x.count(4), 0);
    Check.due("n 0", x.seeded(0, 1), -1);
    Check.due("n 41", x.seeded(41, 1), -1);
    Check.due("n -1", x.seeded(-1, 1), -1);
    Check.due("no readers", Check.made("b1;").seeded(1, 1), -3);
    Check.due("no books", Check.made("r00;").seeded(1, 1), -3);
    Check.due("neither", new TakesAPage().seeded(40, 1), -3);
    Check.due("n goes ahead", new TakesAPage().seeded(41, 1), -1);
  }

  private static void judged(TakesAPage x, int want, int... elements) {
    for (int sort = 0; sort < 3; sort++) {
      Check.row(x, 4, sort, elements);
      Check.due("judge, sort " + sort, x.judge(4), want);
    }
  }

  private static void judging() {
    TakesAPage x = Check.made("b3;b2;r00;r40;");
    judged(x, -4);
    judged(x, -4, 0, 0, 3, 1, 0, 4, 0, 0, 0, 1, 1, 4);
    judged(x, 2, 0, 0, 2, 9, 9, 9);
    judged(x, 5, 0, 0, 3, 1, 0, 6);
    judged(x, 0, 2, 9, 9);
    judged(x, 3, 0, 0, 3, -1, 0, 4);
    judged(x, 1, 0, 2, 3);
    judged(x, 4, 0, 0, 3, 0, -1, 3);
    judged(x, 0, 0);
    judged(x, 0, 0, 0);
    judged(x, 3, 0, 0, 3, 9);
    judged(x, 3, 0, 0, 3, 0, 9);
    judged(x, 2, 0, 0, 4, 0);
    judged(x, 6, 0, 0, 3, 1, 0, 4, 0, 0);
    Check.row(x, 4, 2, 0, 0, 3 + 65536);
    Check.due("ints are told whole", x.judge(4), 2);
    Check.due("nothing stays", x.count(2) + x.count(4), 0);
    Check.due("no shelf", x.judge(8), -1);
    Check.due("shelf -1", x.judge(-1), -1);
    Check.due("nothing", x.judge(5), -11);
    x.keep(5, 1, 0, 0);
    Check.due("a reader", x.judge(5), -12);
  }
}
