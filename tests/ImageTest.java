/** Promises 26 to 28: the image, and what is counted. */
public final class ImageTest {
  public static void main(String[] args) {
    images();
    imagesOfNothing();
    counts();
    Check.end("ImageTest");
  }

  private static void images() {
    TakesAPage x = Check.made("b4;n021;r00;r45;x00;o03;");
    Check.due("none yet", x.restore(), -3);
    String atFirst = Check.all(x);
    Check.due("image", x.image(), 1);
    Check.same("an image changes nothing", Check.all(x), atFirst);
    Check.due("read", x.read(1, 0), 4);
    Check.due("comes more", Check.town(x, "b2;r10;n020;n110;x11;"), 5);
    Check.due("brings", x.brings(0), 1);
    Check.due("restored", x.restore(), 1);
    Check.text(x, 0, "b4;n021;r00;r45;x00;o03;");
    Check.same("all is as it was", Check.all(x), atFirst);
    Check.due("books that came are gone", x.book(1, 0), -1);
    Check.due("the need is as it was", x.page(0, 2, 1), 1);
    x.read(1, 0);
    x.read(1, 0);
    Check.due("restored again", x.restore(), 1);
    Check.same("the image stays", Check.all(x), atFirst);
    x.read(0, 0);
    Check.due("a newer image", x.image(), 2);
    x.read(0, 0);
    Check.due("the newer", x.restore(), 2);
    Check.due("not the older", x.has(0, 0), 3);
    Check.due("needs of a book that comes anew are none", Check.town(x, "b8;"), 1);
    Check.due("none", x.page(1, 1, 1), -4);
  }

  private static void imagesOfNothing() {
    TakesAPage x = new TakesAPage();
    Check.due("image of a new one", x.image(), 0);
    x.keep(3, 1, 4, 5);
    Check.due("comes", x.comes(3), 0);
    Check.town(x, "b3;x00;");
    x.keep(3, 1, 1, 1);
    Check.row(x, 5, 1, 700, 800);
    Check.due("restored", x.restore(), 0);
    Check.due("no books", x.count(0), 0);
    Check.due("no readers", x.count(1), 0);
    Check.due("no reader 0", x.reader(0, 0), -1);
    Check.due("nor of a book", x.book(0, 0), -1);
    Check.due("nothing in or out", x.count(3) + x.count(4), 0);
    Check.due("day", x.count(2), 0);
    Check.due("shelves stay: the reader", x.fee(3), 4);
    Check.due("shelves stay: the row", Check.element(x, 5, 1), 800);
    Check.due("shelves stay: the text", x.town(0), -2003);
  }

  private static void counts() {
    TakesAPage x = Check.made("b4;b8;r40;r00;r10;o00;x01;x10;");
    Check.due("books", x.count(0), 2);
    Check.due("readers", x.count(1), 3);
    Check.due("day", x.count(2), 2);
    Check.due("in", x.count(3), 8);
    Check.due("out", x.count(4), 4);
    Check.due("what 5", x.count(5), -1);
    Check.due("what -1", x.count(-1), -1);
  }
}
