/** Promises 1 to 5: a new object, towns as texts, what is told of books, pages, readers. */
public final class TownsTest {
  private static final String WELL = "b8;r09;n071;o03;x00;";

  public static void main(String[] args) {
    newObject();
    wellTowns();
    statementsOneBehindTheOther();
    faultsOfForm();
    faultsOfStatements();
    faultChangesNothing();
    refusalsOfTown();
    books();
    pages();
    readers();
    Check.end("TownsTest");
  }

  private static void town(String text, int want) {
    Check.due("town " + text, Check.town(new TakesAPage(), text), want);
  }

  private static void newObject() {
    TakesAPage x = new TakesAPage();
    for (int what = 0; what < 5; what++) {
      Check.due("new count " + what, x.count(what), 0);
    }
    Check.due("new book", x.book(0, 0), -1);
    Check.due("new reader", x.reader(0, 0), -1);
    for (int d = 0; d < 8; d++) {
      Check.due("new shelf " + d, x.fee(d), -11);
    }
    Check.due("new image", x.restore(), -3);
  }

  private static void wellTowns() {
    TakesAPage x = new TakesAPage();
    Check.due("well", Check.town(x, WELL), 5);
    Check.due("well books", x.count(0), 1);
    Check.due("well readers", x.count(1), 1);
    Check.due("well day", x.count(2), 1);
    Check.due("well in", x.book(0, 2), 255 - 8 - 1);
    Check.due("well need", x.page(0, 7, 1), 1);
    Check.due("well torn", x.page(0, 3, 2), -4);
    Check.due("well taken", x.page(0, 0, 2), 0);
    Check.due("well text stays", Check.element(x, 0, 0), 'b');
    Check.due("well again", x.town(0), -2012);
    Check.due("more comes", Check.town(x, "b2;r10;"), 2);
    Check.due("more is numbered on", x.book(1, 0), 2);
    Check.due("more readers", x.reader(1, 0), 1);
    town("b1;", 1);
    town("r00;", 1);
    town("b1;b2;b3;b8;r00;r19;r20;r35;r49;r70;", 10);
    StringBuilder long100 = new StringBuilder("b8;r19;b1;");
    for (int k = 0; k < 22; k++) {
      long100.append("x00;");
    }
    long100.append("b1");
    town(long100.toString(), -1100);
    town(long100.substring(0, 98), 25);
  }

  private static void statementsOneBehindTheOther() {
    TakesAPage x = Check.made("b3;n020;n021;");
    Check.due("told again: the newer", x.page(0, 2, 1), 1);
    x = Check.made("b2;o00;n010;");
    Check.due("a page may need one that is out", x.page(0, 1, 1), 0);
    x = Check.made("b2;o01;n010;");
    Check.due("a page that is out may need one", x.page(0, 1, 1), 0);
    x = Check.made("b1;r00;x00;x00;");
    Check.due("a reading without pages is one", x.count(2), 2);
    x = Check.made("b2;o00;o01;r00;");
    Check.due("torn pages make no day", x.count(2), 0);
    x = Check.made("b3;r40;x00;");
    Check.due("who reads takes", x.has(0, 0), 3);
    town("x00;b1;r00;", -2000);
    town("b1;x00;r00;", -2003);
    town("n010;b2;", -2000);
  }

  private static void faultsOfForm() {
    int statements = 0;
    for (int size = 0; size <= WELL.length(); size++) {
      boolean whole = size > 0 && WELL.charAt(size - 1) == ';';
      statements += whole ? 1 : 0;
      town(WELL.substring(0, size), whole ? statements : -1000 - size);
    }
    int[] odd = {'?', '/', ':', 'B', 'a', ' ', 0, 128 + 'b', -1};
    for (int at = 0; at < WELL.length(); at++) {
      for (int sign : odd) {
        if (WELL.charAt(at) != ';' || sign != ';') {
          oddSign(at, sign);
        }
      }
      if (WELL.charAt(at) != ';') {
        oddSign(at, ';');
      }
      if (!Character.isDigit(WELL.charAt(at))) {
        oddSign(at, '1');
      }
      if (!Character.isLetter(WELL.charAt(at))) {
        oddSign(at, 'x');
      }
    }
    town(";", -1000);
    town("b1;;", -1003);
    town("b11;", -1002);
    town("r1;", -1002);
  }

  private static void oddSign(int at, int sign) {
    TakesAPage x = new TakesAPage();
    Check.text(x, 3, WELL);
    x.put(3, at, sign);
    Check.due("sign " + sign + " at " + at, x.town(3), -1000 - at);
  }

  private static void faultsOfStatements() {
    town("b0;", -2000);
    town("b9;", -2000);
    town("b1;b1;b1;b1;b1;", -2012);
    town("n000;", -2000);
    town("b2;n110;", -2003);
    town("b2;n020;", -2003);
    town("b2;n011;", -2003);
    town("b2;n000;", -2003);
    town("b3;n012;", -2003);
    town("b2;n010;n013;", -2008);
    town("r80;", -2000);
    town("r90;", -2000);
    town("r00;r00;r00;r00;r00;r00;r00;", -2024);
    town("o00;", -2000);
    town("b1;o10;", -2003);
    town("b1;o01;", -2003);
    town("b2;o00;o00;", -2007);
    town("b2;r00;x00;o00;", -2011);
    town("r00;x00;", -2004);
    town("b1;x00;", -2003);
    town("b1;r00;x10;", -2007);
    town("b1;r00;x01;", -2007);
    town("b9;b0;", -2000);
    town("b0;?", -1003);
    town("b9;b1", -1005);
  }

  private static void faultChangesNothing() {
    TakesAPage x = Check.made("b4;n010;r23;x00;");
    Check.due("image", x.image(), 1);
    String text = "b2;r00;x00;x10;o03;n032;n110;x00;b0;";
    Check.text(x, 0, text);
    String before = Check.all(x);
    Check.due("fault of kind 2", x.town(0), -2033);
    Check.same("behind a fault of kind 2", Check.all(x), before);
    x.put(0, 35, '?');
    before = Check.all(x);
    Check.due("fault of kind 1", x.town(0), -1035);
    Check.same("behind a fault of kind 1", Check.all(x), before);
    x.put(0, 34, '1');
    x.put(0, 35, ';');
    Check.due("without it all comes", x.town(0), 9);
  }

  private static void refusalsOfTown() {
    TakesAPage x = new TakesAPage();
    Check.due("no shelf", x.town(-1), -1);
    Check.due("no shelf", x.town(8), -1);
    Check.due("nothing", x.town(7), -11);
    x.keep(0, 1, 0, 0);
    Check.due("a reader", x.town(0), -12);
    Check.row(x, 0, 1, 'b', '1', ';');
    Check.due("shorts", x.town(0), -12);
    Check.row(x, 0, 2, 'b', '1', ';');
    Check.due("ints", x.town(0), -12);
    Check.row(x, 7, 0, 'b', '1', ';');
    Check.due("bytes", x.town(7), 1);
  }

  private static void books() {
    TakesAPage x = Check.made("b5;b1;o01;o03;");
    Check.due("pages", x.book(0, 0), 5);
    Check.due("how many in", x.book(0, 1), 3);
    Check.due("which in", x.book(0, 2), 1 + 4 + 16);
    Check.due("the other", x.book(1, 2), 1);
    Check.due("what 3", x.book(0, 3), -1);
    Check.due("what -1", x.book(0, -1), -1);
    Check.due("book -1", x.book(-1, 0), -1);
    Check.due("book 2", x.book(2, 0), -1);
    Check.due("book 4", Check.made("b1;b1;b1;b1;").book(4, 0), -1);
  }

  private static void pages() {
    TakesAPage x = Check.made("b3;n021;r10;r00;o01;x00;");
    Check.due("in", x.page(0, 0, 0), 1);
    Check.due("torn", x.page(0, 1, 0), 0);
    Check.due("taken", x.page(0, 2, 0), 0);
    Check.due("needs", x.page(0, 2, 1), 1);
    Check.due("needs none", x.page(0, 0, 1), -4);
    Check.due("who holds", x.page(0, 2, 2), 0);
    Check.due("nobody holds", x.page(0, 1, 2), -4);
    Check.due("it is in", x.page(0, 0, 2), -4);
    Check.due("read by the other", x.read(1, 0), 1);
    Check.due("the other holds", x.page(0, 0, 2), 1);
    Check.due("what 3", x.page(0, 0, 3), -1);
    Check.due("what -1", x.page(0, 0, -1), -1);
    Check.due("page 3", x.page(0, 3, 0), -1);
    Check.due("page -1", x.page(0, -1, 0), -1);
    Check.due("book 1", x.page(1, 0, 0), -1);
    Check.due("page 8", Check.made("b8;").page(0, 8, 0), -1);
    Check.due("page 7", Check.made("b8;").page(0, 7, 0), 1);
  }

  private static void readers() {
    TakesAPage x = Check.made("b3;b2;r19;r40;x00;x01;x11;x10;");
    Check.due("kind", x.reader(0, 0), 1);
    Check.due("figure", x.reader(0, 1), 9);
    Check.due("holds of two books", x.reader(0, 2), 2);
    Check.due("holds of a fast one", x.reader(1, 2), 3);
    Check.due("what 3", x.reader(0, 3), -1);
    Check.due("what -1", x.reader(0, -1), -1);
    Check.due("reader 2", x.reader(2, 0), -1);
    Check.due("reader -1", x.reader(-1, 0), -1);
    Check.due("reader 6", Check.made("r00;r00;r00;r00;r00;r01;").reader(6, 0), -1);
    Check.due("reader 5", Check.made("r00;r00;r00;r00;r00;r01;").reader(5, 1), 1);
    for (int kind = 0; kind < 8; kind++) {
      Check.due("kind " + kind, Check.made("r" + kind + "2;").reader(0, 0), kind);
    }
  }
}
