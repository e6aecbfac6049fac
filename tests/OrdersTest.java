/** Promises 11 to 16: told readings, orders, what spoils least, laws. */
public final class OrdersTest {
  public static void main(String[] args) {
    runs();
    orders();
    lastOrder();
    spoiling();
    lasting();
    laws();
    leavingOut();
    refusalsOfReadings();
    refusalsOfReaders();
    Check.end("OrdersTest");
  }

  private static void runs() {
    TakesAPage x = Check.made("b3;b2;o10;r00;r40;");
    Check.row(x, 1, 0, 0, 0, 1, 0, 0, 1, 1, 1);
    Check.due("sum", x.run(1, 0), 3 + 4 + 1);
    Check.due("out", x.run(1, 1), 5);
    Check.due("nothing stays", x.count(4), 1);
    Check.due("nor days", x.count(2), 0);
    Check.row(x, 1, 0);
    Check.due("no readings", x.run(1, 0), 0);
    Check.due("out all the same", x.run(1, 1), 1);
    Check.due("no shelf", x.run(8, 0), -1);
    Check.due("what 2", x.run(1, 2), -1);
    Check.due("what -1", x.run(1, -1), -1);
    x = Check.made("b8;r09;");
    Check.row(x, 0, 0, 0, 0, 0, 0, 0, 0, 0, 0, 0, 0, 0, 0, 0, 0, 0, 0, 0, 0, 0, 0, 0, 0, 0, 0);
    Check.due("twelve readings", x.run(0, 0), 8 + 7 + 6 + 5 + 4 + 3 + 2 + 1);
  }

  private static void orders() {
    TakesAPage x = Check.made("b3;r00;r20;r69;");
    Check.row(x, 1, 0, 0, 1);
    Check.due("the kind one first", x.most(0, 1, 0), 6 + 2);
    Check.due("its digits", x.most(0, 1, 1), 1);
    Check.row(x, 1, 0, 1, 0);
    Check.due("by places", x.most(0, 1, 1), 10);
    Check.row(x, 1, 0, 0, 0, 0);
    Check.due("one reader thrice", x.most(0, 1, 0), 3 + 2 + 1);
    Check.due("the first of several", x.most(0, 1, 1), 210);
    Check.row(x, 1, 0, 0, 0, 0, 0, 0, 1);
    Check.due("six", x.most(0, 1, 0), 6 + 2 + 1);
    Check.due("six: the last first", x.most(0, 1, 1), 432105);
    Check.row(x, 1, 0);
    Check.due("none", x.most(0, 1, 0), 0);
    Check.due("no digits", x.most(0, 1, 1), 0);
    Check.due("nothing stays", x.count(2) + x.count(4), 0);
    Check.due("no book", x.most(1, 1, 0), -1);
    Check.due("no shelf", x.most(0, -1, 0), -1);
    Check.due("what 2", x.most(0, 1, 2), -1);
    Check.due("what -1", x.most(0, 1, -1), -1);
  }

  /** Of 720 orders just the last one, by places, is the best (found by search, told by Model too). */
  private static void lastOrder() {
    TakesAPage x = Check.made("b8;n010;n021;n030;n050;n065;n071;r02;r38;r65;r37;r77;r74;");
    Check.row(x, 1, 0, 0, 1, 2, 3, 4, 5);
    Check.due("the last order", x.most(0, 1, 0), 68);
    Check.due("its digits", x.most(0, 1, 1), 12345);
  }

  private static void spoiling() {
    TakesAPage x = Check.made("b3;n010;n020;r00;r65;");
    Check.row(x, 2, 0, 0);
    Check.due("not the first", x.spoils(0, 2, 0), 1);
    Check.due("its sum", x.spoils(0, 2, 1), 2);
    Check.row(x, 2, 0, 0, 0);
    Check.due("two come", x.spoils(0, 2, 1), 2);
    Check.due("nothing stays", x.book(0, 2), 7);
    Check.row(x, 2, 0);
    Check.due("nobody comes", x.spoils(0, 2, 0), 0);
    Check.due("no sum", x.spoils(0, 2, 1), 0);
    Check.due("no book", x.spoils(1, 2, 0), -1);
    Check.due("no shelf", x.spoils(0, 8, 0), -1);
    Check.due("what 2", x.spoils(0, 2, 2), -1);
    Check.due("what -1", x.spoils(0, 2, -1), -1);
    x = Check.made("b2;r00;r65;o00;o01;");
    Check.row(x, 2, 0, 0, 1, 1);
    Check.due("none in", x.spoils(0, 2, 0), -4);
    Check.due("the book as it is", x.spoils(0, 2, 1), 10);
    x = Check.made("b2;r00;r10;o00;");
    Check.row(x, 2, 0, 0);
    Check.due("one in", x.spoils(0, 2, 0), 1);
    Check.due("nothing is left", x.spoils(0, 2, 1), 0);
  }

  private static void lasts(String text, int want) {
    TakesAPage x = Check.made(text);
    Check.due("lasts " + text, x.lasts(0, 0), want);
    Check.due("nothing stays", x.count(2), 0);
  }

  private static void lasting() {
    lasts("b3;r00;", 3);
    lasts("b3;n010;n020;r00;", 1);
    lasts("b3;n010;n020;r10;", 3);
    lasts("b3;r40;", 2);
    lasts("b3;r61;", 30);
    lasts("b3;r60;", 3);
    lasts("b3;r71;", 30);
    lasts("b3;r70;", 3);
    lasts("b3;o01;r00;", 2);
    lasts("b1;o00;r00;", 0);
    lasts("b3;r39;", 3);
    TakesAPage x = Check.made("b3;r00;");
    Check.due("no reader", x.lasts(1, 0), -1);
    Check.due("no book", x.lasts(0, 1), -1);
    Check.due("reader -1", x.lasts(-1, 0), -1);
    Check.due("book -1", x.lasts(0, -1), -1);
  }

  private static void laws() {
    TakesAPage x = Check.made("b3;r00;r10;");
    Check.row(x, 1, 0, 0, 0, 1, 0);
    Check.due("all readers", x.law(1, 0, 0), 5);
    Check.due("all kind", x.law(1, 2, 9), 6 + 4);
    Check.due("all told", x.law(1, 6, 9), 12 + 11);
    Check.due("all fast", x.law(1, 4, 0), 6 + 2);
    Check.due("all leave", x.law(1, 7, 9), 12);
    Check.due("they stay as they are", x.reader(1, 0), 1);
    Check.due("nothing stays", x.count(2), 0);
    Check.due("kind 8", x.law(1, 8, 0), -1);
    Check.due("kind -1", x.law(1, -1, 0), -1);
    Check.due("figure 10", x.law(1, 0, 10), -1);
    Check.due("figure -1", x.law(1, 0, -1), -1);
    Check.due("no shelf", x.law(8, 0, 0), -1);
  }

  private static void leavingOut() {
    TakesAPage x = Check.made("b3;r00;r10;r20;");
    Check.row(x, 1, 0, 0, 0, 1, 0, 0, 0);
    Check.due("all", x.run(1, 0), 6);
    Check.due("without the first", x.without(0, 1), 3);
    Check.due("without the other", x.without(1, 1), 5);
    Check.due("without one who isn't in it", x.without(2, 1), 6);
    Check.due("nothing stays", x.count(2), 0);
    Check.due("no reader", x.without(3, 1), -1);
    Check.due("reader -1", x.without(-1, 1), -1);
    Check.due("no shelf", x.without(0, 8), -1);
  }

  private static void refusedReadings(String what, TakesAPage x, int d, int want) {
    Check.due("run: " + what, x.run(d, 0), want);
    Check.due("law: " + what, x.law(d, 0, 0), want);
    Check.due("without: " + what, x.without(0, d), want);
  }

  private static void refusalsOfReadings() {
    TakesAPage x = Check.made("b3;r00;");
    refusedReadings("nothing", x, 5, -11);
    x.keep(5, 1, 0, 0);
    refusedReadings("a reader", x, 5, -12);
    Check.row(x, 5, 1, 0, 0);
    refusedReadings("shorts", x, 5, -12);
    Check.row(x, 5, 2, 0);
    refusedReadings("ints, ahead of the size", x, 5, -12);
    Check.row(x, 5, 0, 0);
    refusedReadings("odd", x, 5, -13);
    x.row(5, 0, 26);
    refusedReadings("thirteen readings", x, 5, -13);
    x.row(5, 0, 24);
    Check.due("twelve", x.run(5, 0), 6);
    Check.row(x, 5, 0, 0, 0, 1, 0);
    refusedReadings("no reader", x, 5, -13);
    Check.row(x, 5, 0, 0, 0, 0, 1);
    refusedReadings("no book", x, 5, -13);
    Check.row(x, 5, 0, 0, 0, -1, 0);
    refusedReadings("reader -1", x, 5, -13);
    Check.row(x, 5, 0, 0, -1, 0, 0);
    refusedReadings("book -1", x, 5, -13);
    Check.due("what goes ahead of the row", x.run(5, 2), -1);
    Check.due("kind goes ahead of the row", x.law(5, 8, 0), -1);
    Check.due("reader goes ahead of the row", x.without(1, 5), -1);
  }

  private static void refusedReaders(String what, TakesAPage x, int d, int want) {
    Check.due("most: " + what, x.most(0, d, 0), want);
    Check.due("spoils: " + what, x.spoils(0, d, 0), want);
    Check.due("gaps: " + what, x.gaps(0, d, 0), want);
  }

  private static void refusalsOfReaders() {
    TakesAPage x = Check.made("b3;r00;r10;");
    refusedReaders("nothing", x, 5, -11);
    x.keep(5, 1, 0, 0);
    refusedReaders("a reader", x, 5, -12);
    Check.row(x, 5, 1, 0);
    refusedReaders("shorts", x, 5, -12);
    Check.row(x, 5, 2, 9);
    refusedReaders("ints, ahead of what is in it", x, 5, -12);
    x.row(5, 0, 7);
    refusedReaders("seven", x, 5, -13);
    x.row(5, 0, 6);
    Check.due("six", x.most(0, 5, 0), 6);
    Check.row(x, 5, 0, 0, 2);
    refusedReaders("no reader", x, 5, -13);
    Check.row(x, 5, 0, -1, 0);
    refusedReaders("reader -1", x, 5, -13);
    Check.due("most: no book goes ahead", x.most(1, 5, 0), -1);
    Check.due("spoils: what goes ahead", x.spoils(0, 5, 2), -1);
    Check.due("gaps: what goes ahead", x.gaps(0, 5, -1), -1);
  }
}
