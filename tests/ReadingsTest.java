/** Promises 6 to 10: what one understands, worth, takes, reads, brings again. */
public final class ReadingsTest {
  /** Page 1 needs 0, page 2 needs 1, page 3 none. */
  private static final String CHAIN = "b4;n010;n021;";

  public static void main(String[] args) {
    understanding();
    worths();
    takings();
    readings();
    bringing();
    Check.end("ReadingsTest");
  }

  private static void understanding() {
    Check.due("whole", Check.made(CHAIN).understands(0), 15);
    Check.due("without 0", Check.made(CHAIN + "o00;").understands(0), 8);
    Check.due("without 1", Check.made(CHAIN + "o01;").understands(0), 9);
    Check.due("without 2", Check.made(CHAIN + "o02;").understands(0), 11);
    Check.due("without 3", Check.made(CHAIN + "o03;").understands(0), 7);
    Check.due("none in", Check.made("b1;o00;").understands(0), 0);
    Check.due("all eight", Check.made("b8;n070;n061;").understands(0), 255);
    Check.due("no book", Check.made(CHAIN).understands(1), -1);
    Check.due("book -1", Check.made(CHAIN).understands(-1), -1);
  }

  private static void worth(String text, int kind, int figure, int want) {
    TakesAPage x = Check.made(text + "r" + kind + figure + ";");
    Check.due("worth in " + text + " of kind " + kind + " " + figure, x.worth(0, 0), want);
  }

  private static void worths() {
    int[] whole = {4, 4, 8, 4, 8, 8, 4, 8};
    int[] withoutFirst = {1, 1, 2, 1, 2, 2, 1, 2};
    for (int kind = 0; kind < 8; kind++) {
      worth(CHAIN, kind, 0, whole[kind]);
      worth(CHAIN + "o00;", kind, 0, withoutFirst[kind]);
      if (kind != 3 && kind != 6) {
        worth(CHAIN, kind, 9, whole[kind]);
      }
    }
    worth(CHAIN, 3, 6, 4 + 6);
    worth(CHAIN, 3, 9, 4 + 9);
    worth(CHAIN, 3, 4, 4 + 4);
    worth(CHAIN + "o00;", 3, 4, 1);
    worth("b1;", 3, 9, 1 + 9);
    worth("b8;", 3, 9, 8 + 9);
    worth(CHAIN + "o00;", 3, 6, 1);
    worth(CHAIN + "o00;", 3, 7, 1 + 7);
    worth(CHAIN + "o02;", 3, 6, 3);
    worth(CHAIN, 6, 9, 4 + 9);
    worth("b1;o00;", 6, 9, 9);
    worth("b1;o00;", 3, 9, 0);
    worth("b1;o00;", 0, 9, 0);
    TakesAPage x = Check.made("b1;r00;");
    Check.due("no book", x.worth(0, 1), -1);
    Check.due("book -1", x.worth(0, -1), -1);
    Check.due("no reader", x.worth(1, 0), -1);
    Check.due("reader -1", x.worth(-1, 0), -1);
    Check.due("worth changes nothing", x.count(2), 0);
  }

  private static void takes(String text, int kind, int figure, int want) {
    TakesAPage x = Check.made(text + "r" + kind + figure + ";");
    Check.due("takes in " + text + " of kind " + kind + " " + figure, x.takes(0, 0), want);
    Check.due("takes nothing in truth", x.count(2), 0);
  }

  private static void takings() {
    // Behind page 0 one page is understood, behind 1 two, behind 2 and 3 three each.
    int[] whole = {0, 3, 2, 0, 0, 3, 0, 2};
    // Pages 1, 2, 3 are in, 3 alone is understood: one stays so behind 1 and 2.
    int[] withoutFirst = {1, 3, 1, 3, 1, 2, 1, 1};
    for (int kind = 0; kind < 8; kind++) {
      takes(CHAIN, kind, 0, whole[kind]);
      takes(CHAIN + "o00;", kind, 0, withoutFirst[kind]);
      takes("b1;o00;", kind, 0, -4);
      takes("b1;", kind, 0, 0);
    }
    takes(CHAIN, 3, 5, 1);
    takes("b1;", 3, 9, 0);
    takes("b8;", 3, 8, 0);
    takes(CHAIN + "o01;", 3, 5, 3);
    takes(CHAIN + "o01;o03;", 3, 5, 2);
    takes(CHAIN + "o00;", 3, 2, 2);
    takes(CHAIN, 6, 3, 3);
    takes(CHAIN, 6, 4, 0);
    takes(CHAIN, 6, 9, 0);
    takes(CHAIN + "o03;", 6, 3, 0);
    takes("b8;", 6, 7, 7);
    takes(CHAIN, 7, 3, 2);
    takes(CHAIN, 7, 4, -4);
    takes(CHAIN, 7, 9, -4);
    takes(CHAIN + "o03;", 7, 3, -4);
    takes("b8;", 2, 0, 0);
    takes("b8;", 5, 0, 7);
    takes("b8;", 1, 9, 7);
    TakesAPage x = Check.made("b1;r00;");
    Check.due("no book", x.takes(0, 1), -1);
    Check.due("no reader", x.takes(1, 0), -1);
    Check.due("reader -1", x.takes(-1, 0), -1);
    Check.due("book -1", x.takes(0, -1), -1);
  }

  private static void readings() {
    TakesAPage x = Check.made("b4;b2;r00;r40;r79;");
    Check.due("first", x.read(0, 0), 4);
    Check.due("it took", x.book(0, 2), 14);
    Check.due("it holds", x.page(0, 0, 2), 0);
    Check.due("day", x.count(2), 1);
    Check.due("the other book is whole", x.book(1, 2), 3);
    Check.due("fast", x.read(1, 0), 6);
    Check.due("took two", x.book(0, 2), 8);
    Check.due("holds two", x.has(1, 0), 6);
    Check.due("fast with one left", x.read(1, 0), 2);
    Check.due("took one", x.book(0, 2), 0);
    Check.due("fast with none", x.read(1, 0), 0);
    Check.due("days", x.count(2), 4);
    Check.due("one who leaves", x.read(2, 1), 4);
    Check.due("left all", x.book(1, 2), 3);
    Check.due("a day all the same", x.count(2), 5);
    Check.due("no book", x.read(0, 2), -1);
    Check.due("no reader", x.read(3, 0), -1);
    Check.due("reader -1", x.read(-1, 0), -1);
    Check.due("book -1", x.read(0, -1), -1);
    Check.due("refused readings make no day", x.count(2), 5);
    x = Check.made("b8;r40;o00;o02;");
    Check.due("fast over a gap", x.read(0, 0), 12);
    Check.due("took 1 and 3", x.has(0, 0), 2 + 8);
  }

  private static void bringing() {
    TakesAPage x = Check.made("b3;b3;r00;r10;o01;x00;x00;x01;x11;");
    Check.due("holds", x.reader(0, 2), 3);
    Check.due("brings", x.brings(0), 3);
    Check.due("first book", x.book(0, 2), 5);
    Check.due("second book", x.book(1, 2), 3);
    Check.due("the other still holds", x.page(1, 2, 2), 1);
    Check.due("nobody holds what is in", x.page(0, 0, 2), -4);
    Check.due("the torn one stays out", x.page(0, 1, 0), 0);
    Check.due("days stay", x.count(2), 4);
    Check.due("nothing more", x.brings(0), 0);
    Check.due("the other", x.brings(1), 1);
    Check.due("no reader", x.brings(2), -1);
    Check.due("reader -1", x.brings(-1), -1);
    Check.due("reader -4", x.brings(-4), -1);
    x = Check.made("b1;b2;b3;b4;r00;r40;x00;x01;x12;x03;x13;");
    Check.due("of four books", x.reader(0, 2), 3);
    Check.due("of four books, fast", x.reader(1, 2), 4);
    Check.due("brings to four books", x.brings(0), 3);
    Check.due("some stay out", x.count(4), 4);
  }
}
