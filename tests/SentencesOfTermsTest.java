import java.io.IOException;

/** The first part of the document's terms, sentence by sentence: books, readers, worth, takes, fees. */
public final class SentencesOfTermsTest {
  /** Each page but the first needs the one ahead of it. */
  private static final String CHAIN = "b8;n010;n021;n032;n043;n054;n065;n076;";
  /** Three pages that need the first. */
  private static final String STAR = "b4;n010;n020;n030;";
  private static final String FLAT = "b8;";
  private static final String ALL_OUT = "b3;o00;o01;o02;";

  public static void main(String[] args) throws IOException {
    booksAndPages();
    readersAndDays();
    understanding();
    worthsUnderReader();
    worthsUnderOthers();
    takesOfPlainOnes();
    takesOfKindOnes();
    takesOfThoseWithAFigure();
    reading();
    fees();
    moreAndLess();
    Sentence.end("SentencesOfTermsTest");
  }

  private static void booksAndPages() {
    Sentence.says("BOOKS 0 .. 3 as they come", () -> {
      TakesAPage x = Check.made("b5;b6;b7;b8;");
      for (int book = 0; book < 4; book++) {
        Check.due("PAGES of BOOK " + book, x.book(book, 0), 5 + book);
      }
      Check.due("BOOK -1", x.book(-1, 0), -1);
      Check.due("BOOK 4", x.book(4, 0), -1);
      Check.due("a fifth BOOK", Check.town(x, "b1;"), -2000);
      Check.due("four have come", x.count(0), 4);
    });
    Sentence.says("each of PAGES 0 .. (1 .. 8 of them)", () -> {
      for (int pages = 1; pages <= 8; pages++) {
        TakesAPage x = Check.made("b" + pages + ";");
        Check.due("PAGES", x.book(0, 0), pages);
        Check.due("PAGE -1", x.page(0, -1, 0), -1);
        Check.due("PAGE 0", x.page(0, 0, 0), 1);
        Check.due("the last PAGE of " + pages, x.page(0, pages - 1, 0), 1);
        Check.due("the PAGE behind it", x.page(0, pages, 0), -1);
      }
      Check.due("0 PAGES", Check.town(new TakesAPage(), "b0;"), -2000);
      Check.due("9 PAGES", Check.town(new TakesAPage(), "b9;"), -2000);
    });
    Sentence.says("that are IN (all at first) or OUT", () -> {
      for (int pages = 1; pages <= 8; pages++) {
        TakesAPage x = Check.made("b" + pages + ";r00;");
        Check.due("all IN", x.book(0, 2), (1 << pages) - 1);
        Check.due("none OUT", x.count(4), 0);
        for (int page = 0; page < pages; page++) {
          x.read(0, 0);
        }
        Check.due("all OUT", x.count(4), pages);
        Check.due("a BOOK that comes behind it is whole", Check.town(x, "b8;"), 1);
        Check.due("all IN", x.book(1, 2), 255);
      }
    });
    Sentence.says("a PAGE may NEED an earlier one of its BOOK (none at first)", () -> {
      TakesAPage x = Check.made("b8;b8;");
      for (int page = 0; page < 8; page++) {
        Check.due("none at first", x.page(0, page, 1), -4);
      }
      Check.due("the one ahead", Check.town(x, "n076;n010;"), 2);
      Check.due("the first", Check.town(x, "n060;"), 1);
      Check.due("7 NEEDS 6", x.page(0, 7, 1), 6);
      Check.due("1 NEEDS 0", x.page(0, 1, 1), 0);
      Check.due("6 NEEDS 0", x.page(0, 6, 1), 0);
      Check.due("0 NEEDS none", x.page(0, 0, 1), -4);
      Check.due("the other BOOK's 7 NEEDS none", x.page(1, 7, 1), -4);
      Check.due("itself", Check.town(x, "n033;"), -2000);
      Check.due("a later one", Check.town(x, "n034;"), -2000);
    });
    Sentence.says("HOLDS: who has a PAGE that is OUT (nobody, if it was torn by text)", () -> {
      TakesAPage x = Check.made("b2;r00;r00;o00;x10;");
      Check.due("the torn one is OUT", x.page(0, 0, 0), 0);
      Check.due("nobody HOLDS it", x.page(0, 0, 2), -4);
      Check.due("READER 0 HOLDS none", x.reader(0, 2), 0);
      Check.due("READER 1 HOLDS the other", x.page(0, 1, 2), 1);
      Check.due("one PAGE", x.reader(1, 2), 1);
      Check.due("it was his", x.has(1, 0), 2);
    });
  }

  private static void readersAndDays() {
    Sentence.says("READERS 0 .. 5 as they come", () -> {
      TakesAPage x = Check.made("r09;r18;r27;r36;r45;r54;");
      for (int reader = 0; reader < 6; reader++) {
        Check.due("KIND of READER " + reader, x.reader(reader, 0), reader);
        Check.due("FIGURE of READER " + reader, x.reader(reader, 1), 9 - reader);
      }
      Check.due("READER -1", x.reader(-1, 0), -1);
      Check.due("READER 6", x.reader(6, 0), -1);
      Check.due("a seventh", Check.town(x, "r00;"), -2000);
      Check.due("six have come", x.count(1), 6);
    });
    Sentence.says("of KINDS: 0 READER; 1 LAST under READER; 2 KIND under READER; 3 OWN under LAST; "
        + "4 FAST under READER; 5 BEST under KIND; 6 TOLD under READER; 7 LEAVES under KIND", () -> {
      for (int kind = 0; kind < 8; kind++) {
        Check.due("KIND " + kind, Check.made("r" + kind + "0;").reader(0, 0), kind);
        Check.due("KIND " + kind, new TakesAPage().keep(0, 1, kind, 0), 0);
      }
      Check.due("KIND 8 by text", Check.town(new TakesAPage(), "r80;"), -2000);
      Check.due("KIND 9 by text", Check.town(new TakesAPage(), "r90;"), -2000);
      Check.due("KIND 8", new TakesAPage().keep(0, 1, 8, 0), -1);
      Check.due("KIND -1", new TakesAPage().keep(0, 1, -1, 0), -1);
    });
    Sentence.says("a FIGURE (0 .. 9)", () -> {
      for (int figure = 0; figure < 10; figure++) {
        Check.due("FIGURE " + figure, Check.made("r4" + figure + ";").reader(0, 1), figure);
        TakesAPage x = new TakesAPage();
        Check.due("FIGURE " + figure, x.keep(0, 1, 4, figure), 0);
        Check.due("he comes", x.comes(0), 0);
        Check.due("FIGURE " + figure, x.reader(0, 1), figure);
      }
      Check.due("FIGURE 10", new TakesAPage().keep(0, 1, 4, 10), -1);
      Check.due("FIGURE -1", new TakesAPage().keep(0, 1, 4, -1), -1);
    });
    Sentence.says("DAY (0 at first)", () -> {
      TakesAPage x = new TakesAPage();
      Check.due("DAY", x.count(2), 0);
      Check.due("DAY", x.image(), 0);
      Check.town(x, "b8;r00;o07;n010;");
      Check.due("a text without a reading makes none", x.count(2), 0);
    });
  }

  private static void understanding() {
    Sentence.says("those that are IN and NEED none, or one that he UNDERSTANDS", () -> {
      Check.due("a whole chain", Check.made(CHAIN).understands(0), 255);
      for (int page = 0; page < 8; page++) {
        TakesAPage x = Check.made(CHAIN + "o0" + page + ";");
        Check.due("a chain without " + page, x.understands(0), (1 << page) - 1);
      }
      Check.due("one that is needed by three is OUT", Check.made(STAR + "o00;").understands(0), 0);
      Check.due("one that needs is OUT", Check.made(STAR + "o02;").understands(0), 1 + 2 + 8);
      Check.due("all NEED none", Check.made(FLAT).understands(0), 255);
      Check.due("none is IN", Check.made(ALL_OUT).understands(0), 0);
    });
  }

  private static void worth(String text, String kindAndFigure, int want) {
    TakesAPage x = Check.made(text + "r" + kindAndFigure + ";");
    Check.due("WORTH of " + text + " for " + kindAndFigure, x.worth(0, 0), want);
  }

  private static void worthsUnderReader() {
    Sentence.says("WORTH of reading it: how many he UNDERSTANDS, times: READER 1", () -> {
      worth("b1;", "00", 1);
      worth(FLAT, "09", 8);
      worth(CHAIN + "o04;", "09", 4);
      worth(CHAIN + "o00;", "09", 0);
      worth(ALL_OUT, "09", 0);
    });
    Sentence.says("LAST as a READER", () -> {
      worth("b1;", "19", 1);
      worth(FLAT, "19", 8);
      worth(ALL_OUT, "19", 0);
    });
    Sentence.says("KIND a READER's and 1", () -> {
      worth("b1;", "20", 2);
      worth(FLAT, "29", 16);
      worth(STAR + "o03;", "29", 6);
      worth(ALL_OUT, "29", 0);
    });
    Sentence.says("FAST twice a READER's", () -> {
      worth("b1;", "40", 2);
      worth(FLAT, "49", 16);
      worth(STAR + "o03;", "49", 6);
      worth(ALL_OUT, "49", 0);
    });
    Sentence.says("TOLD a READER's and FIGURE more in all", () -> {
      worth("b1;", "60", 1);
      worth("b1;", "69", 10);
      worth(FLAT, "69", 17);
      worth(CHAIN + "o00;", "69", 9);
      worth(ALL_OUT, "69", 9);
      worth(ALL_OUT, "60", 0);
    });
  }

  private static void worthsUnderOthers() {
    Sentence.says("OWN as a LAST, and FIGURE more in all, "
        + "if PAGE (FIGURE modulo PAGES) is understood", () -> {
      worth(FLAT, "30", 8);
      worth(FLAT, "37", 15);
      worth(FLAT, "38", 16);
      worth(FLAT, "39", 17);
      worth(FLAT + "o07;", "37", 7);
      worth(FLAT + "o00;", "38", 7);
      worth(FLAT + "o00;", "39", 16);
      worth("b1;", "39", 10);
      worth("b1;o00;", "39", 0);
      worth("b4;o01;", "35", 3);
      worth("b4;o01;", "34", 7);
      worth(STAR, "37", 11);
      worth(STAR + "o00;", "37", 0);
      worth("b3;n010;o00;", "34", 1);
      worth("b3;n010;o00;", "35", 6);
    });
    Sentence.says("BEST as a KIND", () -> {
      worth("b1;", "50", 2);
      worth(FLAT, "59", 16);
      worth(ALL_OUT, "59", 0);
    });
    Sentence.says("LEAVES as a KIND", () -> {
      worth("b1;", "79", 2);
      worth(FLAT, "70", 16);
      worth(FLAT, "79", 16);
      worth(ALL_OUT, "79", 0);
    });
  }

  private static void takes(String text, String kindAndFigure, int want) {
    TakesAPage x = Check.made(text + "r" + kindAndFigure + ";");
    Check.due("of " + text + " TAKES " + kindAndFigure, x.takes(0, 0), want);
    int in = x.book(0, 2);
    x.read(0, 0);
    int taken = want < 0 ? 0 : 1 << want;
    if (kindAndFigure.charAt(0) != '4') {
      Check.due("of " + text + " has " + kindAndFigure, x.has(0, 0), taken);
      Check.due("IN of " + text + " behind " + kindAndFigure, x.book(0, 2), in & ~taken);
    }
  }

  private static void takesOfPlainOnes() {
    Sentence.says("Which PAGE one TAKES of a BOOK with some PAGES IN (-4 none)", () -> {
      for (int kind = 0; kind < 8; kind++) {
        for (int figure = 0; figure < 10; figure += 3) {
          takes(ALL_OUT, "" + kind + figure, -4);
          takes("b1;o00;", "" + kind + figure, -4);
        }
        takes("b1;", kind + "0", 0);
      }
    });
    Sentence.says("READER the least that is IN", () -> {
      takes(FLAT, "07", 0);
      takes(FLAT + "o00;", "07", 1);
      takes("b8;o00;o01;o02;o03;o04;o05;o06;", "00", 7);
      takes("b4;o01;", "02", 0);
    });
    Sentence.says("LAST the greatest", () -> {
      takes(FLAT, "10", 7);
      takes(FLAT + "o07;", "10", 6);
      takes("b8;o01;o02;o03;o04;o05;o06;o07;", "19", 0);
      takes("b4;o02;", "11", 3);
    });
    Sentence.says("FAST as a READER, and then the next least, too, if one is left (two PAGES)", () -> {
      takes(FLAT, "40", 0);
      fastHas("b8;", 1 + 2);
      fastHas("b8;o01;", 1 + 4);
      fastHas("b8;o00;o02;", 2 + 8);
      fastHas("b8;o01;o02;o03;o04;o05;o06;", 1 + 128);
      fastHas("b2;", 3);
      fastHas("b2;o00;", 2);
      fastHas("b1;", 1);
      fastHas("b1;o00;", 0);
    });
  }

  private static void fastHas(String text, int want) {
    TakesAPage x = Check.made(text + "r49;x00;");
    Check.due("of " + text + " has a FAST one", x.has(0, 0), want);
    Check.due("of " + text + " PAGES", x.reader(0, 2), Integer.bitCount(want));
  }

  private static void takesOfKindOnes() {
    Sentence.says("KIND that by which most PAGES are UNDERSTOOD behind it "
        + "(by one who UNDERSTANDS as above), of several the least", () -> {
      takes(FLAT, "29", 0);
      takes(CHAIN, "29", 7);
      takes(STAR, "20", 1);
      takes(STAR + "o01;", "20", 2);
      takes(STAR + "o00;", "20", 1);
      takes("b4;n020;o00;", "20", 2);
      takes("b4;n021;n031;o01;", "20", 2);
      takes("b8;o00;o01;o02;o03;o04;o05;o06;", "20", 7);
      takes("b2;n010;o01;", "20", 0);
    });
    Sentence.says("BEST as a KIND, but of several the greatest", () -> {
      takes(FLAT, "59", 7);
      takes(CHAIN, "59", 7);
      takes(STAR, "50", 3);
      takes(STAR + "o03;", "50", 2);
      takes(STAR + "o00;", "50", 3);
      takes("b4;n020;o00;", "50", 2);
      takes("b4;n021;n031;o01;", "50", 3);
      takes("b8;o01;o02;o03;o04;o05;o06;o07;", "50", 0);
    });
  }

  private static void takesOfThoseWithAFigure() {
    Sentence.says("OWN PAGE (FIGURE modulo PAGES), if it is IN, else as a LAST", () -> {
      for (int pages = 1; pages <= 8; pages++) {
        for (int figure = 0; figure < 10; figure++) {
          takes("b" + pages + ";", "3" + figure, figure % pages);
        }
      }
      takes("b8;o01;", "39", 7);
      takes("b8;o00;o07;", "38", 6);
      takes("b4;n030;o00;", "33", 3);
      takes("b4;o03;o02;", "37", 1);
    });
    Sentence.says("TOLD PAGE FIGURE, if it is IN, else as a READER", () -> {
      for (int figure = 0; figure < 10; figure++) {
        takes("b8;", "6" + figure, figure < 8 ? figure : 0);
        takes("b5;", "6" + figure, figure < 5 ? figure : 0);
      }
      takes("b8;o07;", "67", 0);
      takes("b8;o00;", "68", 1);
      takes("b8;o00;o01;", "60", 2);
      takes("b1;", "69", 0);
    });
    Sentence.says("LEAVES none, if FIGURE PAGES or fewer are IN, else as a KIND", () -> {
      for (int figure = 0; figure < 10; figure++) {
        takes("b8;", "7" + figure, figure < 8 ? 0 : -4);
        takes(STAR, "7" + figure, figure < 4 ? 1 : -4);
        takes(STAR + "o01;", "7" + figure, figure < 3 ? 2 : -4);
        takes("b1;", "7" + figure, figure < 1 ? 0 : -4);
      }
    });
  }

  private static void reading() {
    Sentence.says("To READ a BOOK: its WORTH for him is told; then he TAKES; DAY is one more.", () -> {
      TakesAPage x = Check.made("b2;r20;r79;");
      Check.due("WORTH ahead of what he TAKES", x.read(0, 0), 4);
      Check.due("he took one", x.book(0, 2), 2);
      Check.due("DAY", x.count(2), 1);
      Check.due("by one who LEAVES", x.read(1, 0), 2);
      Check.due("he left it", x.book(0, 2), 2);
      Check.due("DAY all the same", x.count(2), 2);
      Check.due("the last PAGE", x.read(0, 0), 2);
      Check.due("none is IN", x.book(0, 2), 0);
      Check.due("a BOOK with no PAGE", x.read(0, 0), 0);
      Check.due("he HOLDS no more", x.reader(0, 2), 2);
      Check.due("DAY all the same", x.count(2), 4);
    });
  }

  private static void fee(int kind, int figure, int want) {
    TakesAPage x = new TakesAPage();
    Check.due("keep", x.keep(7, 1, kind, figure), 0);
    Check.due("FEE of " + kind + " with " + figure, x.fee(7), want);
  }

  private static void fees(String words, int kind, int... wantByFigure) {
    Sentence.says(words, () -> {
      for (int figure = 0; figure < 10; figure++) {
        fee(kind, figure, wantByFigure[Math.min(figure, wantByFigure.length - 1)]);
      }
    });
  }

  private static void fees() {
    fees("FEE of a READER: READER 3", 0, 3);
    fees("LAST a READER's and FIGURE", 1, 3, 4, 5, 6, 7, 8, 9, 10, 11, 12);
    fees("KIND a READER's less 1", 2, 2);
    fees("OWN twice a LAST's", 3, 6, 8, 10, 12, 14, 16, 18, 20, 22, 24);
    fees("FAST a READER's times (FIGURE and 1)", 4, 3, 6, 9, 12, 15, 18, 21, 24, 27, 30);
    fees("BEST a KIND's and 6", 5, 8);
    fees("TOLD a READER's less FIGURE", 6, 3, 2, 1, 0, -1, -2, -3, -4, -5, -6);
    fees("LEAVES three times a KIND's", 7, 6);
  }

  private static int toss(int kind, int figure) {
    TakesAPage x = new TakesAPage();
    x.keep(0, 1, kind, figure);
    return x.toss(0);
  }

  private static void moreAndLess() {
    Sentence.says("of a KIND (or SORT) \"n more\", \"n less\" without more words is: "
        + "than what the one it is under has", () -> {
      for (int figure = 1; figure < 10; figure++) {
        Check.due("OWN to LAST", toss(3, figure) - toss(1, figure), 100);
      }
      for (int figure = 0; figure < 10; figure++) {
        fee(2, figure, 3 - 1);
        fee(6, figure, 3 - figure);
        worth("b4;", "6" + figure, 4 + figure);
        worth("b4;", "3" + figure, 4 + figure);
      }
    });
    Sentence.says("\"a and b\" of two numbers is their sum", () -> {
      for (int pages = 1; pages <= 8; pages++) {
        worth("b" + pages + ";", "20", pages * (1 + 1));
      }
      fee(1, 9, 3 + 9);
      fee(4, 9, 3 * (9 + 1));
      fee(5, 9, 2 + 6);
    });
  }
}
