/** Promises 17 to 20: drawers, copies, gaps. */
public final class DrawersTest {
  public static void main(String[] args) {
    drawers();
    putTogether();
    twoCopies();
    gaps();
    Check.end("DrawersTest");
  }

  private static void drawers() {
    TakesAPage x = Check.made("b4;b2;r10;r40;o00;x00;x10;x01;");
    Check.due("the last", x.has(0, 0), 8);
    Check.due("two", x.has(1, 0), 6);
    Check.due("of the other book", x.has(0, 1), 2);
    Check.due("none of it", x.has(1, 1), 0);
    Check.due("no reader", x.has(2, 0), -1);
    Check.due("no book", x.has(0, 2), -1);
    Check.due("reader -1", x.has(-1, 0), -1);
    Check.due("reader -4", x.has(-4, 0), -1);
    Check.due("book -1", x.has(0, -1), -1);
  }

  private static void putTogether() {
    TakesAPage x = Check.made("b4;b2;r00;r10;r40;o10;");
    Check.due("whole", x.together(0), 0);
    x.read(1, 0);
    Check.due("one", x.together(0), 2);
    x.read(2, 0);
    Check.due("two", x.together(0), 6);
    x.read(0, 0);
    Check.due("three, none in", x.together(0), 7);
    Check.due("torn by text", x.together(1), -4);
    x.read(0, 1);
    Check.due("torn and held", x.together(1), -4);
    x.brings(2);
    Check.due("brought again", x.together(0), 3);
    Check.due("no book", x.together(2), -1);
    Check.due("book -1", x.together(-1), -1);
  }

  private static void twoCopies() {
    TakesAPage x = Check.made("b4;b4;b3;o00;o10;o01;o12;o22;");
    Check.due("both", x.copies(0, 1), 4 + 8 + 2);
    Check.due("the other way", x.copies(1, 0), 14);
    Check.due("unlike", x.copies(0, 2), -4);
    Check.due("one twice", x.copies(0, 0), -1);
    Check.due("no first", x.copies(3, 0), -1);
    Check.due("no second", x.copies(0, 3), -1);
    Check.due("first -1", x.copies(-1, 0), -1);
    Check.due("second -1", x.copies(0, -1), -1);
    Check.due("none twice", x.copies(3, 3), -1);
  }

  private static void gaps() {
    TakesAPage x = Check.made("b3;r00;r10;r40;r79;r60;");
    Check.row(x, 1, 0, 1, 0, 4, 3, 2, 0);
    Check.due("whole: he who leaves", x.gaps(0, 1, 0), 1);
    Check.due("whole: his place", x.gaps(0, 1, 1), 3);
    x.read(0, 0);
    Check.due("the first is out", x.gaps(0, 1, 0), 3);
    Check.due("the first such place", x.gaps(0, 1, 1), 1);
    x.read(0, 0);
    Check.due("two are out", x.gaps(0, 1, 0), 1);
    Check.due("the fast one", x.gaps(0, 1, 1), 4);
    x.read(0, 0);
    Check.due("all are out", x.gaps(0, 1, 0), 0);
    Check.due("nobody", x.gaps(0, 1, 1), -4);
    Check.due("what 2", x.gaps(0, 1, 2), -1);
    Check.due("what -1", x.gaps(0, 1, -1), -1);
    Check.due("no book", x.gaps(1, 1, 0), -1);
    Check.due("no shelf", x.gaps(0, 8, 0), -1);
    Check.row(x, 1, 0);
    Check.due("no places", x.gaps(0, 1, 0), 0);
    Check.due("no first", x.gaps(0, 1, 1), -4);
    x = Check.made("b3;r10;o02;");
    Check.row(x, 1, 0, 0);
    Check.due("torn by text is out, too", x.gaps(0, 1, 0), 1);
    Check.due("nothing stays", x.book(0, 2), 3);
  }
}
