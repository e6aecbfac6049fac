import java.io.IOException;
import java.nio.file.Files;
import java.nio.file.Path;
import java.util.regex.Matcher;
import java.util.regex.Pattern;

/** Promises 1 to 28: under each its bounds, and each of its refusals; the 512th call. */
public final class SentencesOfPromisesTest {
  private static final int LOWER = -1000000000;

  interface Call {
    int of(int argument);
  }

  public static void main(String[] args) throws IOException {
    calls();
    newObject();
    town();
    bookPageReader();
    readings();
    toldReadings();
    ordersAndSpoils();
    lastsLawWithout();
    drawersCopiesGaps();
    turnsAndPrices();
    years();
    judge();
    imageAndCount();
    headings();
    Sentence.end("SentencesOfPromisesTest");
  }

  /** Two books (of 3 and 2 pages), two readers, SHELF 1 a ROW of both READERS and READINGS. */
  private static TakesAPage two() {
    TakesAPage x = Check.made("b3;b2;r00;r39;");
    Check.row(x, 1, 0, 0, 1);
    return x;
  }

  private static void refused(String what, Call call, int low, int high, int want) {
    for (int argument : Sentence.outside(low, high)) {
      Check.due(what + " " + argument, call.of(argument), want);
    }
  }

  private static void answered(String what, Call call, int low, int high) {
    for (int argument = low; argument <= high; argument++) {
      int answer = call.of(argument);
      boolean well = answer >= 0 || answer == -4;
      Check.due(what + " " + argument + " answered " + answer + ", which is well", well ? 1 : 0, 1);
    }
  }

  /** An argument is answered within its bounds, and refused by -1 outside of them. */
  private static void bounds(String what, Call call, int low, int high) {
    answered(what, call, low, high);
    refused(what, call, low, high, -1);
  }

  private static void calls() {
    Sentence.says("An object is used for at most 512 calls after it has been made", () -> {
      TakesAPage x = Check.made("b8;r00;r69;");
      int made = 13;
      for (int k = made; k < 511; k++) {
        Check.due("read", x.read(1, 0), Math.max(0, 8 - (k - made)) + 9);
      }
      Check.due("the 512th", x.count(2), 511 - made);
      x = new TakesAPage();
      for (int k = 0; k < 256; k++) {
        Check.due("keep", x.keep(k % 8, 1, 3, k % 10), 0);
        Check.due("toss", x.toss(k % 8), k % 10 == 0 ? -15 : 100 + k % 10);
      }
      x = new TakesAPage();
      for (int k = 0; k < 512; k++) {
        Check.due("row", x.row(k % 8, 2, 100), 0);
      }
    });
  }

  private static void newObject() {
    Sentence.says("No BOOKS, no READERS.", () -> {
      TakesAPage x = new TakesAPage();
      x.row(1, 0, 0);
      for (int what = 0; what < 5; what++) {
        Check.due("count " + what, x.count(what), 0);
      }
      Check.due("book", x.book(0, 0), -1);
      Check.due("page", x.page(0, 0, 0), -1);
      Check.due("reader", x.reader(0, 0), -1);
      Check.due("understands", x.understands(0), -1);
      Check.due("worth", x.worth(0, 0), -1);
      Check.due("takes", x.takes(0, 0), -1);
      Check.due("read", x.read(0, 0), -1);
      Check.due("brings", x.brings(0), -1);
      Check.due("run", x.run(1, 0), 0);
      Check.due("run", x.run(1, 1), 0);
      Check.due("most", x.most(0, 1, 0), -1);
      Check.due("spoils", x.spoils(0, 1, 0), -1);
      Check.due("lasts", x.lasts(0, 0), -1);
      Check.due("law", x.law(1, 0, 0), 0);
      Check.due("without", x.without(0, 1), -1);
      Check.due("has", x.has(0, 0), -1);
      Check.due("together", x.together(0), -1);
      Check.due("copies", x.copies(0, 1), -1);
      Check.due("gaps", x.gaps(0, 1, 0), -1);
      Check.due("turns", x.turns(0, 0, 0), LOWER - 1);
      Check.due("price", x.price(0, 0, 0), LOWER - 1);
      Check.due("howMany", x.howMany(0, 0, 1), -1);
      Check.due("seeded", x.seeded(1, 0), -3);
      Check.due("judge", x.judge(1), -4);
      Check.due("restore", x.restore(), -3);
      Check.due("image", x.image(), 0);
      Check.due("restore", x.restore(), 0);
      TakesAPage full = Check.made("b8;r00;x00;");
      full.image();
      x = new TakesAPage();
      Check.due("another object's BOOKS", x.count(0), 0);
      Check.due("another object's IMAGE", x.restore(), -3);
      Check.due("another object's SHELVES", x.fee(0), -11);
      Check.due("the other one stays", full.count(4), 1);
    });
  }

  private static void town() {
    Sentence.says("The text in SHELF d: how many STATEMENTS; the FAULT. -1, -11, -12 (no ROW of bytes).",
        () -> {
      TakesAPage x = new TakesAPage();
      refused("town", d -> x.town(d), 0, 7, -1);
      for (int d = 0; d < 8; d++) {
        Check.due("nothing in " + d, x.town(d), -11);
      }
      for (int d = 0; d < 6; d++) {
        Check.text(x, d, "r00;");
        Check.due("of SHELF " + d, x.town(d), 1);
      }
      Check.due("six", x.count(1), 6);
      x.keep(7, 1, 0, 0);
      Check.due("a READER", x.town(7), -12);
    });
  }

  private static void bookPageReader() {
    Sentence.says("Of a BOOK: PAGES (what 0), how many IN (1), which (2, bits). -1.", () -> {
      TakesAPage x = Check.made("b8;b1;o00;o07;o10;");
      Check.due("PAGES", x.book(0, 0), 8);
      Check.due("how many IN", x.book(0, 1), 6);
      Check.due("which", x.book(0, 2), 126);
      Check.due("PAGES", x.book(1, 0), 1);
      Check.due("how many IN", x.book(1, 1), 0);
      Check.due("which", x.book(1, 2), 0);
      bounds("book", book -> x.book(book, 0), 0, 1);
      bounds("what", what -> x.book(0, what), 0, 2);
    });
    Sentence.says("Of a PAGE of a BOOK: 1 if IN (what 0), which it NEEDS (1; -4), "
        + "who HOLDS it (2; -4 nobody, it is IN). -1.", () -> {
      TakesAPage x = Check.made("b3;b2;n020;r00;r10;x10;o01;");
      int[] in = {1, 0, 0};
      int[] needs = {-4, -4, 0};
      int[] holds = {-4, -4, 1};
      for (int page = 0; page < 3; page++) {
        Check.due("IN " + page, x.page(0, page, 0), in[page]);
        Check.due("NEEDS " + page, x.page(0, page, 1), needs[page]);
        Check.due("HOLDS " + page, x.page(0, page, 2), holds[page]);
      }
      Check.due("brings", x.brings(1), 1);
      Check.due("IN again", x.page(0, 2, 0), 1);
      Check.due("it NEEDS what it did", x.page(0, 2, 1), 0);
      Check.due("nobody HOLDS it, it is IN", x.page(0, 2, 2), -4);
      bounds("book", book -> x.page(book, 0, 0), 0, 1);
      bounds("page", page -> x.page(0, page, 1), 0, 2);
      bounds("page of a smaller BOOK", page -> x.page(1, page, 2), 0, 1);
      bounds("what", what -> x.page(0, 2, what), 0, 2);
    });
    Sentence.says("Of a READER: KIND (what 0), FIGURE (1), how many PAGES he HOLDS (2). -1.", () -> {
      TakesAPage x = Check.made("b8;b2;b1;r49;r70;x00;x01;x02;x10;");
      Check.due("KIND", x.reader(0, 0), 4);
      Check.due("FIGURE", x.reader(0, 1), 9);
      Check.due("of three BOOKS", x.reader(0, 2), 5);
      Check.due("KIND", x.reader(1, 0), 7);
      Check.due("FIGURE", x.reader(1, 1), 0);
      Check.due("of one", x.reader(1, 2), 1);
      bounds("reader", reader -> x.reader(reader, 0), 0, 1);
      bounds("what", what -> x.reader(0, what), 0, 2);
      TakesAPage full = Check.made("b8;b8;b8;b8;r40;x00;x00;x00;x00;x01;x01;x01;x01;x02;x02;x02;x02;");
      for (int k = 0; k < 4; k++) {
        full.read(0, 3);
      }
      Check.due("all that there are", full.reader(0, 2), 32);
    });
  }

  private static void readings() {
    Sentence.says("UNDERSTANDS (bits). -1.", () -> {
      TakesAPage x = two();
      bounds("understands", book -> x.understands(book), 0, 1);
      Check.due("all", x.understands(0), 7);
    });
    Sentence.says("WORTH of a BOOK for a READER. -1.", () -> {
      TakesAPage x = two();
      bounds("worth, reader", reader -> x.worth(reader, 0), 0, 1);
      bounds("worth, book", book -> x.worth(0, book), 0, 1);
    });
    Sentence.says("Which PAGE he TAKES first; -4. -1.", () -> {
      TakesAPage x = two();
      bounds("takes, reader", reader -> x.takes(reader, 0), 0, 1);
      bounds("takes, book", book -> x.takes(0, book), 0, 1);
      TakesAPage y = Check.made("b1;o00;r00;");
      Check.due("none", y.takes(0, 0), -4);
      refused("takes, reader, of none", reader -> y.takes(reader, 0), 0, 0, -1);
    });
    Sentence.says("He READS it: its WORTH. -1.", () -> {
      TakesAPage x = two();
      refused("read, reader", reader -> x.read(reader, 0), 0, 1, -1);
      refused("read, book", book -> x.read(0, book), 0, 1, -1);
      Check.due("no DAY", x.count(2), 0);
      Check.due("no PAGE", x.count(4), 0);
      Check.due("the last READER, the last BOOK", x.read(1, 1), 2 + 9);
      Check.due("one DAY", x.count(2), 1);
    });
    Sentence.says("All PAGES that a READER HOLDS are IN again: how many. -1.", () -> {
      TakesAPage x = Check.made("b8;b1;r40;r10;x00;x00;x00;x10;x01;o06;");
      refused("brings", reader -> x.brings(reader), 0, 1, -1);
      Check.due("nothing came", x.count(4), 9);
      Check.due("of two BOOKS", x.brings(0), 7);
      Check.due("IN", x.book(0, 2), 63);
      Check.due("IN", x.book(1, 2), 1);
      Check.due("he HOLDS none", x.reader(0, 2), 0);
      Check.due("nobody HOLDS what is IN", x.page(0, 0, 2), -4);
      Check.due("nobody HOLDS what is IN", x.page(0, 5, 2), -4);
      Check.due("the other still HOLDS his", x.page(0, 7, 2), 1);
      Check.due("none", x.brings(0), 0);
      Check.due("the other", x.brings(1), 1);
      Check.due("the torn one stays OUT", x.book(0, 2), 255 - 64);
      Check.due("DAYS stay", x.count(2), 5);
    });
  }

  private static void toldReadings() {
    Sentence.says("RUN by the ROW of READINGS in SHELF d: the sum (what 0), PAGES OUT (1). "
        + "-1, and of the ROW.", () -> {
      TakesAPage x = two();
      bounds("run, what", what -> x.run(1, what), 0, 1);
      refused("run, shelf", d -> x.run(d, 0), 0, 7, -1);
      Check.due("nothing in 0's neighbour", x.run(2, 0), -11);
      Check.due("nothing in 7", x.run(7, 0), -11);
      Check.due("a text is none", x.run(0, 0), -13);
      for (int d = 2; d < 8; d++) {
        Check.row(x, d, 0, 1, 0);
        Check.due("of SHELF " + d, x.run(d, 0), 12);
      }
    });
  }

  private static void ordersAndSpoils() {
    Sentence.says("MOST by the ROW of READERS in SHELF d: the sum (what 0), the digits (1). "
        + "-1, and of the ROW.", () -> {
      TakesAPage x = two();
      bounds("most, what", what -> x.most(0, 1, what), 0, 1);
      bounds("most, book", book -> x.most(book, 1, 0), 0, 1);
      refused("most, shelf", d -> x.most(0, d, 0), 0, 7, -1);
      Check.due("nothing in 7", x.most(0, 7, 0), -11);
      Check.due("a text is none", x.most(0, 0, 0), -13);
    });
    Sentence.says("LEAST SPOILS by the ROW of READERS in SHELF d: the PAGE (what 0; -4), that sum (1). "
        + "-1, and of the ROW.", () -> {
      TakesAPage x = two();
      bounds("spoils, what", what -> x.spoils(0, 1, what), 0, 1);
      bounds("spoils, book", book -> x.spoils(book, 1, 0), 0, 1);
      refused("spoils, shelf", d -> x.spoils(0, d, 0), 0, 7, -1);
      Check.due("nothing in 7", x.spoils(0, 7, 0), -11);
      Check.due("a text is none", x.spoils(0, 0, 0), -13);
    });
  }

  private static void lastsLawWithout() {
    Sentence.says("LASTS. -1.", () -> {
      TakesAPage x = two();
      bounds("lasts, reader", reader -> x.lasts(reader, 0), 0, 1);
      bounds("lasts, book", book -> x.lasts(0, book), 0, 1);
    });
    Sentence.says("LAW by the ROW of READINGS in SHELF d. -1, and of the ROW.", () -> {
      TakesAPage x = two();
      bounds("law, kind", kind -> x.law(1, kind, 9), 0, 7);
      bounds("law, figure", figure -> x.law(1, 0, figure), 0, 9);
      refused("law, shelf", d -> x.law(d, 0, 0), 0, 7, -1);
      Check.due("nothing in 7", x.law(7, 0, 0), -11);
      Check.due("a text is none", x.law(0, 0, 0), -13);
    });
    Sentence.says("WITHOUT a READER, by the ROW of READINGS in SHELF d. -1, and of the ROW.", () -> {
      TakesAPage x = two();
      bounds("without, reader", reader -> x.without(reader, 1), 0, 1);
      refused("without, shelf", d -> x.without(0, d), 0, 7, -1);
      Check.due("nothing in 7", x.without(0, 7), -11);
      Check.due("a text is none", x.without(0, 0), -13);
    });
  }

  private static void drawersCopiesGaps() {
    Sentence.says("HAS (bits). -1.", () -> {
      TakesAPage x = two();
      bounds("has, reader", reader -> x.has(reader, 0), 0, 1);
      bounds("has, book", book -> x.has(0, book), 0, 1);
      Check.due("a READER -4, as nobody is told", x.has(-4, 0), -1);
    });
    Sentence.says("PUT TOGETHER (bits); -4. -1.", () -> {
      TakesAPage x = two();
      bounds("together", book -> x.together(book), 0, 1);
      Check.due("torn", Check.town(x, "o01;"), 1);
      Check.due("-4", x.together(0), -4);
      Check.due("the other is whole", x.together(1), 0);
    });
    Sentence.says("TWO COPIES (bits); -4. -1 (one twice, too).", () -> {
      TakesAPage x = Check.made("b2;b2;b2;b3;");
      for (int one = 0; one < 4; one++) {
        int n = one;
        refused("other of " + n, other -> x.copies(n, other), 0, 3, -1);
        refused("one of " + n, other -> x.copies(other, n), 0, 3, -1);
        for (int other = 0; other < 4; other++) {
          int want = one == other ? -1 : one == 3 || other == 3 ? -4 : 3;
          Check.due("copies " + one + " " + other, x.copies(one, other), want);
        }
      }
      Check.due("none twice", x.copies(4, 4), -1);
      Check.due("none twice", x.copies(-1, -1), -1);
    });
    Sentence.says("GAPS by the ROW of READERS in SHELF d: how many (what 0), the first place (1; -4). "
        + "-1, and of the ROW.", () -> {
      TakesAPage x = two();
      bounds("gaps, what", what -> x.gaps(0, 1, what), 0, 1);
      bounds("gaps, book", book -> x.gaps(book, 1, 0), 0, 1);
      refused("gaps, shelf", d -> x.gaps(0, d, 0), 0, 7, -1);
      Check.due("nothing in 7", x.gaps(0, 7, 0), -11);
      Check.due("a text is none", x.gaps(0, 0, 0), -13);
    });
  }

  private static void turnsAndPrices() {
    Sentence.says("TURNS. -1000000001 (one READER twice is well).", () -> {
      TakesAPage x = two();
      refused("turns, one", one -> x.turns(one, 0, 0), 0, 1, LOWER - 1);
      refused("turns, other", other -> x.turns(0, other, 0), 0, 1, LOWER - 1);
      refused("turns, book", book -> x.turns(0, 1, book), 0, 1, LOWER - 1);
      Check.due("one READER twice", x.turns(0, 0, 0), 3 - 2 + 1);
      Check.due("below 0", x.turns(0, 1, 1), 2 - 10);
    });
    Sentence.says("PRICE. -1000000001; -1000000003 it is OUT.", () -> {
      TakesAPage x = two();
      refused("price, reader", reader -> x.price(reader, 0, 0), 0, 1, LOWER - 1);
      refused("price, book", book -> x.price(0, book, 0), 0, 1, LOWER - 1);
      refused("price, page", page -> x.price(0, 0, page), 0, 2, LOWER - 1);
      refused("price, page of a smaller BOOK", page -> x.price(0, 1, page), 0, 1, LOWER - 1);
      Check.due("the last PAGE", x.price(1, 0, 2), 1);
      Check.due("read", x.read(1, 0), 3 + 9);
      Check.due("PAGE 0 of 3 is OUT", x.price(1, 0, 0), LOWER - 3);
      Check.due("PAGE 0 of the other BOOK is IN", x.price(0, 1, 0), 1);
      Check.due("torn", Check.town(x, "o02;"), 1);
      Check.due("a torn one is OUT", x.price(0, 0, 2), LOWER - 3);
      Check.due("brought again", x.brings(1), 1);
      Check.due("IN again", x.price(1, 0, 0), 1 + 9);
    });
    Sentence.says("where numbers that may be below 0 are answered (told at the call), "
        + "1000000000 less", () -> {
      TakesAPage x = two();
      Check.due("turns", x.turns(0, 2, 0), -1000000001);
      Check.due("price, no such", x.price(0, 0, 3), -1000000001);
      x.read(0, 0);
      Check.due("price, OUT", x.price(0, 0, 0), -1000000003);
      Check.due("fee, where it is not told", x.fee(7), -11);
    });
  }

  private static void years() {
    Sentence.says("HOW MANY; -4. -1.", () -> {
      TakesAPage x = two();
      bounds("howMany, reader", reader -> x.howMany(reader, 0, 1), 0, 1);
      bounds("howMany, book", book -> x.howMany(0, book, 1), 0, 1);
      bounds("howMany, n", n -> x.howMany(0, 0, n), 1, 40);
      Check.due("27 of 3", x.howMany(0, 0, 27), 9);
      Check.due("28 of 3", x.howMany(0, 0, 28), -4);
    });
    Sentence.says("SEEDED. -1, -3 there are no READERS, no BOOKS.", () -> {
      TakesAPage x = two();
      bounds("seeded, n", n -> x.seeded(n, 7), 1, 40);
      answered("seeded, z", z -> x.seeded(1, z), -3, 3);
      answered("seeded, z", z -> x.seeded(40, z), Integer.MAX_VALUE - 1, Integer.MAX_VALUE - 1);
      answered("seeded, z", z -> x.seeded(40, z), Integer.MIN_VALUE, Integer.MIN_VALUE + 1);
      TakesAPage noReaders = Check.made("b8;b8;b8;b8;");
      answered("ahead of a READER", n -> noReaders.seeded(n, 1) == -3 ? 0 : -1, 1, 40);
      TakesAPage noBooks = Check.made("r00;r00;r00;r00;r00;r00;");
      answered("ahead of a BOOK", n -> noBooks.seeded(n, 1) == -3 ? 0 : -1, 1, 40);
      Check.due("a READER comes", Check.town(noReaders, "r00;"), 1);
      Check.due("by now", noReaders.seeded(1, 1), 8);
      Check.due("a BOOK comes", Check.town(noBooks, "b1;"), 1);
      Check.due("by now", noBooks.seeded(40, 1), 1);
    });
  }

  private static void judge() {
    Sentence.says("JUDGED by the ROW in SHELF d; -4. -1, -11, -12 (no ROW).", () -> {
      TakesAPage x = two();
      refused("judge, shelf", d -> x.judge(d), 0, 7, -1);
      Check.due("nothing in 7", x.judge(7), -11);
      x.keep(7, 1, 0, 0);
      Check.due("a READER in 7", x.judge(7), -12);
      for (int sort = 0; sort < 3; sort++) {
        Check.row(x, 7, sort, 1, 1, 11);
        Check.due("all is so", x.judge(7), -4);
        x.row(7, sort, 0);
        Check.due("nothing is told", x.judge(7), -4);
      }
      Check.row(x, 7, 2, 1, 1, 11 + 65536);
      Check.due("ints are whole", x.judge(7), 2);
      Check.row(x, 7, 2, 65536, 1, 2);
      Check.due("ints are whole", x.judge(7), 0);
      Check.row(x, 7, 1, 0, 256, 3);
      Check.due("shorts are whole", x.judge(7), 1);
    });
  }

  private static void imageAndCount() {
    Sentence.says("THE IMAGE is taken: DAY.", () -> {
      TakesAPage x = two();
      Check.due("day 0", x.image(), 0);
      x.read(0, 0);
      x.read(0, 0);
      Check.due("day 2", x.image(), 2);
      Check.due("again", x.image(), 2);
      x.read(0, 0);
      Check.due("the last that was taken", x.restore(), 2);
      Check.due("its PAGES", x.book(0, 2), 4);
    });
    Sentence.says("THE IMAGE is RESTORED: DAY. -3: there is none.", () -> {
      TakesAPage x = two();
      Check.due("none", x.restore(), -3);
      x.read(0, 0);
      Check.due("none", x.restore(), -3);
      Check.due("all is as it was", x.count(2) * 10 + x.count(4), 11);
      Check.due("taken", x.image(), 1);
      x.read(0, 0);
      x.read(0, 0);
      Check.due("the DAY that it was then", x.restore(), 1);
      Check.due("DAY", x.count(2), 1);
      Check.due("and again", x.restore(), 1);
    });
    Sentence.says("0 BOOKS, 1 READERS, 2 DAY, 3 PAGES IN, 4 PAGES OUT; -1 for others.", () -> {
      TakesAPage x = two();
      bounds("count", what -> x.count(what), 0, 4);
      x.read(1, 1);
      Check.town(x, "o00;o01;r00;x21;x21;");
      int[] want = {2, 3, 3, 1, 4};
      for (int what = 0; what < 5; what++) {
        Check.due("count " + what, x.count(what), want[what]);
      }
      TakesAPage full = Check.made("b8;b8;b8;b8;r00;r00;r00;r00;r00;r00;");
      int[] wantFull = {4, 6, 0, 32, 0};
      for (int what = 0; what < 5; what++) {
        Check.due("full count " + what, full.count(what), wantFull[what]);
      }
    });
  }

  private static void headings() throws IOException {
    headed("towns", "town", "book", "page", "reader");
    headed("readings", "understands", "worth", "takes", "read", "brings");
    headed("told readings, orders", "run", "most", "spoils", "lasts", "law", "without");
    headed("drawers, copies, gaps", "has", "together", "copies", "gaps");
    headed("turns, prices, years", "turns", "price", "howMany", "seeded", "judge");
    headed("the image, what is told", "image", "restore", "count");
    headed("shelves", "keep", "row", "put", "element", "copy", "comes", "fee", "toss");
  }

  /** The heading that stands last ahead of each of these calls. */
  private static void headed(String heading, String... calls) throws IOException {
    String source = Files.readString(Path.of("src/main/java/TakesAPage.java"));
    String names = "`" + String.join("`, `", calls) + "`";
    Sentence.says("Ahead of the calls " + names + " the interface says: ---- " + heading + ".", () -> {
      for (String call : calls) {
        Matcher m = Pattern.compile("\n  public (int|long) " + call + "\\(").matcher(source);
        Check.due(call + " is there", m.find() ? 1 : 0, 1);
        int at = source.lastIndexOf("// ---- ", m.start());
        Check.due(call + " has a heading", at >= 0 ? 1 : 0, 1);
        int end = source.indexOf('\n', at);
        Check.same("ahead of " + call, source.substring(at, end), "// ---- " + heading);
      }
    });
  }
}
