import java.io.IOException;

/** The second part of the document's terms, sentence by sentence: a town is read from bytes. */
public final class SentencesOfTownsTest {
  public static void main(String[] args) throws IOException {
    statementB();
    statementN();
    statementR();
    statementO();
    statementX();
    atLeastOne();
    faultsOfKindOne();
    faultsOfKindTwo();
    whichFaultIsTold();
    allOrNothing();
    oneBehindTheOther();
    fullTexts();
    Sentence.end("SentencesOfTownsTest");
  }

  private static void town(String text, int want) {
    Check.due("town " + text, Check.town(new TakesAPage(), text), want);
  }

  private static void statementB() {
    Sentence.says("b, PAGES (a digit): a BOOK more", () -> {
      for (int pages = 0; pages <= 9; pages++) {
        town("b" + pages + ";", pages >= 1 && pages <= 8 ? 1 : -2000);
      }
      town("b", -1001);
      town("b;", -1001);
      town("b1", -1002);
      town("b12;", -1002);
      town("b-1;", -1001);
      town("b1;b2;b3;b4;", 4);
      town("b1;b2;b3;b4;b5;", -2012);
      TakesAPage x = Check.made("b1;b8;");
      Check.due("the first", x.book(0, 0), 1);
      Check.due("the second", x.book(1, 0), 8);
      Check.due("two", x.count(0), 2);
      Check.due("none of them a READER", x.count(1), 0);
    });
  }

  private static void statementN() {
    Sentence.says("n, a BOOK, a PAGE, an earlier PAGE of it (digits): that PAGE NEEDS this one "
        + "(told again: the newer)", () -> {
      town("b8;n076;", 2);
      town("b8;n070;", 2);
      town("b8;n010;", 2);
      town("b8;n080;", -2003);
      town("b8;n098;", -2003);
      town("b8;n077;", -2003);
      town("b8;n067;", -2003);
      town("b8;n000;", -2003);
      town("b8;n001;", -2003);
      town("b2;n020;", -2003);
      town("b2;n110;", -2003);
      town("b2;n910;", -2003);
      town("b1;b1;b1;b2;n310;", 5);
      town("n010;", -2000);
      town("b2;n01;", -1006);
      town("b2;n0100;", -1007);
      TakesAPage x = Check.made("b4;n030;n032;n020;");
      Check.due("the newer", x.page(0, 3, 1), 2);
      Check.due("the other", x.page(0, 2, 1), 0);
      Check.due("no more", x.page(0, 1, 1), -4);
      Check.due("an older one told again", Check.town(x, "n030;"), 1);
      Check.due("the newest", x.page(0, 3, 1), 0);
    });
  }

  private static void statementR() {
    Sentence.says("r, KIND, FIGURE (digits): a READER more", () -> {
      for (int kind = 0; kind <= 9; kind++) {
        town("r" + kind + "9;", kind < 8 ? 1 : -2000);
      }
      town("r0;", -1002);
      town("r000;", -1003);
      town("r00", -1003);
      town("r00;r11;r22;r33;r44;r55;", 6);
      town("r00;r11;r22;r33;r44;r55;r66;", -2024);
      TakesAPage x = Check.made("r70;r09;");
      Check.due("KIND", x.reader(0, 0), 7);
      Check.due("FIGURE", x.reader(0, 1), 0);
      Check.due("KIND", x.reader(1, 0), 0);
      Check.due("FIGURE", x.reader(1, 1), 9);
      Check.due("two", x.count(1), 2);
      Check.due("he HOLDS none", x.reader(1, 2), 0);
    });
  }

  private static void statementO() {
    Sentence.says("o, a BOOK, a PAGE (digits): it is OUT now, nobody HOLDS it (if it is IN)", () -> {
      town("b8;o07;", 2);
      town("b8;o00;", 2);
      town("b8;o08;", -2003);
      town("b7;o07;", -2003);
      town("b8;o10;", -2003);
      town("o00;", -2000);
      town("b8;o07;o07;", -2007);
      town("b8;r10;x00;o07;", -2011);
      town("b8;r10;x00;o06;", 4);
      town("b8;o0;", -1005);
      town("b8;o000;", -1006);
      TakesAPage x = Check.made("b2;r00;x00;o01;");
      Check.due("it is OUT", x.page(0, 1, 0), 0);
      Check.due("nobody HOLDS it", x.page(0, 1, 2), -4);
      Check.due("torn is not read", x.count(2), 1);
      Check.due("he brings his own again", x.brings(0), 1);
      Check.due("not the torn one", x.book(0, 2), 1);
      Check.due("it is IN again and can be torn", Check.town(x, "o00;"), 1);
      Check.due("none is IN", x.book(0, 2), 0);
    });
  }

  private static void statementX() {
    Sentence.says("x, a READER, a BOOK (digits): he READS it", () -> {
      town("b1;r00;x00;", 3);
      town("b1;b1;b1;b1;r00;r00;r00;r00;r00;r00;x53;", 11);
      town("b1;r00;x10;", -2007);
      town("b1;r00;x01;", -2007);
      town("b1;x00;", -2003);
      town("r00;x00;", -2004);
      town("b1;r00;x0;", -1009);
      town("b1;r00;x000;", -1010);
      town("b1;r00;x00;x00;", 4);
      town("b1;o00;r00;x00;", 4);
      TakesAPage x = Check.made("b3;b3;r19;r40;x00;x11;x00;");
      Check.due("a READER, then a BOOK", x.has(0, 0), 6);
      Check.due("the other READER", x.has(1, 1), 3);
      Check.due("DAYS", x.count(2), 3);
      Check.due("two PAGES are IN", x.count(3), 2);
    });
  }

  private static void atLeastOne() {
    Sentence.says("At least one STATEMENT.", () -> {
      town("", -1000);
      town(";", -1000);
      town("b1;", 1);
      TakesAPage x = Check.made("b2;r00;x00;");
      Check.due("empty, where there is a TOWN", Check.town(x, ""), -1000);
      Check.due("it stays", x.count(0) + x.count(1) + x.count(2), 3);
    });
  }

  private static void faultsOfKindOne() {
    Sentence.says("STATEMENTS, each with ; behind", () -> {
      town("b1b1;", -1002);
      town("b1;r00x00;", -1006);
      town("b1;r00:", -1006);
      town("b1;r00 ;", -1006);
      town("b1;;r00;", -1003);
      town("b1;r00", -1006);
      town(";b1;", -1000);
    });
    Sentence.says("kind 1 the place of the first byte with which no TOWN can go on "
        + "(the size, if it ends too early)", () -> {
      String well = "b8;n010;r00;o07;x00;";
      for (int size = 0; size < well.length(); size++) {
        if (size == 0 || well.charAt(size - 1) != ';') {
          town(well.substring(0, size), -1000 - size);
        }
      }
      for (int sign = 0; sign < 256; sign++) {
        boolean letter = "bnrox".indexOf(sign) >= 0;
        town("b8;" + (char) sign, letter ? -1004 : -1003);
        boolean digit = sign >= '0' && sign <= '9';
        town("b" + (char) sign, digit ? -1002 : -1001);
        town("b8" + (char) sign, sign == ';' ? 1 : -1002);
        town("r0" + (char) sign, digit ? -1003 : -1002);
        town("n00" + (char) sign, digit ? -1004 : -1003);
      }
      town("?;?", -1000);
      town("b?;?", -1001);
    });
  }

  private static void faultsOfKindTwo() {
    Sentence.says("else kind 2 the place of the letter of the first STATEMENT that isn't as told "
        + "(a number out of range, what isn't there, a PAGE that is OUT, no room)", () -> {
      town("b1;b0;", -2003);
      town("b1;b9;", -2003);
      town("b1;r80;", -2003);
      town("b3;n012;", -2003);
      town("b1;n110;", -2003);
      town("b1;n010;", -2003);
      town("b1;o01;", -2003);
      town("b1;o10;", -2003);
      town("b1;r00;x10;", -2007);
      town("b1;r00;x01;", -2007);
      town("b1;o00;o00;", -2007);
      town("b1;r00;x00;o00;", -2011);
      town("b1;b1;b1;b1;b1;", -2012);
      town("r00;r00;r00;r00;r00;r00;r00;", -2024);
      town("b0;b9;r80;o00;", -2000);
      town("b8;b9;r80;o00;", -2003);
      town("b8;o00;r80;o00;", -2007);
    });
  }

  private static void whichFaultIsTold() {
    Sentence.says("-1000 times the kind less the place", () -> {
      StringBuilder text = new StringBuilder("b8;r00;");
      for (int k = 0; k < 23; k++) {
        int place = text.length();
        town(text + "?", -1000 - place);
        town(text + "r80;", -2000 - place);
        text.append("x00;");
      }
      town(text + "?", -1099);
      town(text.toString(), 25);
    });
    Sentence.says("kind 1 (of any place) goes ahead of kind 2", () -> {
      town("b0;?", -1003);
      town("b9;b1;o00;o00;n011;x", -1020);
      town("?b0;", -1000);
      town("b9;b1", -1005);
    });
  }

  private static void allOrNothing() {
    Sentence.says("Without FAULT all of it comes; with one nothing.", () -> {
      String[] ahead = {"", "b2;b2;r20;n010;n110;o11;x00;"};
      for (String town : ahead) {
        nothingComes(town, "b8;r79;x00;b9;", -2011);
        nothingComes(town, "b8;r79;b9;?", -1010);
        nothingComes(town, "r11;b3;r", -1008);
      }
      nothingComes(ahead[1], "n110;o10;x01;x00;n021;", -2017);
      nothingComes(ahead[1], "b1;b1;r20;x00;b1;", -2014);
      nothingComes(ahead[1], "o10;o10;", -2004);
      TakesAPage x = Check.made("b8;r79;n076;o00;x00;");
      Check.due("a BOOK", x.book(0, 0), 8);
      Check.due("a READER", x.reader(0, 1), 9);
      Check.due("a NEED", x.page(0, 7, 1), 6);
      Check.due("a PAGE OUT", x.book(0, 2), 254);
      Check.due("a DAY", x.count(2), 1);
    });
  }

  private static void nothingComes(String ahead, String text, int want) {
    TakesAPage x = new TakesAPage();
    TakesAPage other = new TakesAPage();
    if (!ahead.isEmpty()) {
      Check.due("ahead", Check.town(x, ahead), 7);
      Check.due("ahead", Check.town(other, ahead), 7);
    }
    Check.text(other, 0, text);
    Check.due("town " + text, Check.town(x, text), want);
    Check.same("behind " + text, Check.all(x), Check.all(other));
  }

  private static void oneBehindTheOther() {
    Sentence.says("STATEMENTS are tried one behind the other, each on what those ahead of it made, "
        + "and the first that can't be done so is told", () -> {
      town("b2;n010;o00;r00;x00;", 5);
      town("n010;b2;", -2000);
      town("o00;b1;", -2000);
      town("x00;b1;r00;", -2000);
      town("b1;x00;r00;", -2003);
      town("b2;n110;b2;", -2003);
      town("b1;r10;x00;o00;", -2011);
      town("b2;r10;x00;o00;o01;", -2015);
      town("b1;o00;b1;o00;", -2010);
      town("b1;b1;b1;b1;r00;b1;o00;o00;", -2016);
      TakesAPage x = Check.made("b3;r20;x00;n010;n020;x00;");
      Check.due("read ahead of what the text NEEDS then", x.has(0, 0), 3);
      Check.due("left", x.book(0, 2), 4);
    });
  }

  private static void fullTexts() {
    Sentence.says("A TOWN is read from bytes: STATEMENTS", () -> {
      StringBuilder text = new StringBuilder("b8;r00;n010;");
      for (int k = 0; k < 22; k++) {
        text.append("x00;");
      }
      town(text.toString(), 25);
      TakesAPage x = Check.made(text.toString());
      Check.due("of 100 bytes the last, too", Check.element(x, 0, 99), ';');
      Check.due("all readings", x.count(2), 22);
      Check.due("all pages", x.has(0, 0), 255);
      text.setCharAt(99, '0');
      town(text.toString(), -1099);
      text.setCharAt(99, ';');
      text.setCharAt(98, '1');
      town(text.toString(), -2096);
      text.setLength(99);
      town(text.toString(), -1099);
    });
    Sentence.says("-12 (no ROW of bytes)", () -> {
      TakesAPage x = new TakesAPage();
      Check.row(x, 0, 1, 'b', '1', ';');
      Check.due("shorts", x.town(0), -12);
      Check.row(x, 0, 2, 'b', '1', ';');
      Check.due("ints", x.town(0), -12);
      x.row(0, 1, 0);
      Check.due("no shorts", x.town(0), -12);
      x.keep(0, 1, 0, 0);
      Check.due("a READER", x.town(0), -12);
      Check.due("nothing came", x.count(0), 0);
      Check.row(x, 0, 0, 'b' + 256, '1' - 256, ';' + 512);
      Check.due("bytes keep the lowest bits", x.town(0), 1);
    });
  }
}
