import java.io.IOException;

/** The third part of the document's terms, sentence by sentence: what is told in mind, the image. */
public final class SentencesInMindTest {
  private static final int[] NOBODY = {};

  public static void main(String[] args) throws IOException {
    nothingStays();
    runs();
    orders();
    leastSpoils();
    lasts();
    laws();
    drawers();
    gaps();
    turns();
    prices();
    copiesEnough();
    seeds();
    judged();
    images();
    Sentence.end("SentencesInMindTest");
  }

  /** A town whose pages, days, needs and holders all would show it if something stayed. */
  private static TakesAPage worldly() {
    TakesAPage x = Check.made("b5;b5;b1;n010;n110;r00;r39;r45;r22;x10;x01;o03;");
    Check.row(x, 1, 0, 0, 1, 2, 3);
    Check.row(x, 2, 0, 0, 0, 2, 1, 3, 2, 1, 1);
    Check.row(x, 3, 2, 0, 0, 3, 1, 1, 4, 2, 0, 9);
    return x;
  }

  private static void nothingStays() {
    Sentence.says("In mind (nothing stays)", () -> {
      TakesAPage one = worldly();
      TakesAPage other = worldly();
      Check.due("run", one.run(2, 0) + one.run(2, 1) > 0 ? 1 : 0, 1);
      Check.due("most", one.most(0, 1, 0) + one.most(0, 1, 1) > 0 ? 1 : 0, 1);
      Check.due("spoils", one.spoils(0, 1, 1) > one.spoils(0, 1, 0) ? 1 : 0, 1);
      Check.due("lasts", one.lasts(0, 0), 3);
      Check.due("law", one.law(2, 6, 9) > 0 ? 1 : 0, 1);
      Check.due("without", one.without(2, 2) > 0 ? 1 : 0, 1);
      Check.same("behind all those", Check.all(one), Check.all(other));
      one = worldly();
      Check.due("gaps", one.gaps(0, 1, 0), 0);
      Check.due("gaps", one.gaps(1, 1, 1), 0);
      Check.due("turns", one.turns(0, 1, 1) > -1000000000 ? 1 : 0, 1);
      Check.due("price", one.price(0, 0, 2), 1);
      Check.due("howMany", one.howMany(0, 0, 10), 2);
      Check.due("seeded", one.seeded(40, 9) > 0 ? 1 : 0, 1);
      Check.due("judge", one.judge(3), 5);
      Check.due("copies", one.copies(0, 1), 7 | 30);
      Check.due("takes", one.takes(2, 0), 0);
      Check.same("behind all these", Check.all(one), Check.all(other));
    });
  }

  private static void run(String text, int sum, int out, int... readings) {
    TakesAPage x = Check.made(text);
    Check.row(x, 7, 0, readings);
    Check.due("sum in " + text, x.run(7, 0), sum);
    Check.due("OUT in " + text, x.run(7, 1), out);
  }

  private static void runs() {
    Sentence.says("RUN: a ROW of READINGS, one behind the other: all WORTHS together; "
        + "how many PAGES are OUT then", () -> {
      run("b3;r00;", 0, 0, NOBODY);
      run("b3;r00;o01;", 0, 1, NOBODY);
      run("b3;r00;", 3, 1, 0, 0);
      run("b3;r00;", 3 + 2 + 1 + 0, 3, 0, 0, 0, 0, 0, 0, 0, 0);
      run("b3;b2;r00;", 3 + 2 + 2, 3, 0, 0, 0, 1, 0, 0);
      run("b3;b2;r00;x01;o02;", 2 + 1, 4, 0, 0, 0, 1);
      run("b3;b2;r79;", 6 + 6 + 4, 0, 0, 0, 0, 0, 0, 1);
      run("b3;r65;", 8 + 7 + 6 + 5 + 5, 3, 0, 0, 0, 0, 0, 0, 0, 0, 0, 0);
      run("b3;r40;", 6 + 2, 3, 0, 0, 0, 0);
      run("b8;r00;", 8 + 7 + 6 + 5 + 4 + 3 + 2 + 1, 8,
          0, 0, 0, 0, 0, 0, 0, 0, 0, 0, 0, 0, 0, 0, 0, 0, 0, 0, 0, 0, 0, 0, 0, 0);
      run("b1;b1;b1;b8;r00;r00;r00;r00;r00;r19;", 8 + 7 + 1, 3, 5, 3, 0, 3, 4, 2);
    });
  }

  private static void most(String text, int sum, int digits, int... readers) {
    TakesAPage x = Check.made(text);
    Check.row(x, 7, 0, readers);
    Check.due("most of " + text, x.most(0, 7, 0), sum);
    Check.due("digits of " + text, x.most(0, 7, 1), digits);
  }

  private static void orders() {
    Sentence.says("MOST: of all orders of a ROW of READERS (by places), who READ a BOOK one behind "
        + "the other, the greatest sum of WORTHS", () -> {
      most("b3;r00;", 0, 0, NOBODY);
      most("b3;r20;", 6, 0, 0);
      most("b3;r00;r20;", 6 + 2, 1, 0, 1);
      most("b3;r00;r20;", 6 + 2, 10, 1, 0);
      most("b3;r00;r20;", 6 + 4 + 1, 120, 1, 0, 1);
      most("b8;r00;r40;", 16 + 6, 10, 0, 1);
      most("b8;r00;r40;", 16 + 6, 10, 1, 0);
      most("b2;o00;o01;r00;r65;", 5 + 5, 210, 1, 0, 1);
      most("b8;n010;n021;n030;n050;n065;n071;r02;r38;r65;r37;r77;r74;", 68, 12345,
          0, 1, 2, 3, 4, 5);
    });
    Sentence.says("the first such order by places, as digits, the first the lowest", () -> {
      most("b8;r00;", 8, 0, 0);
      most("b8;r00;", 8 + 7, 10, 0, 0);
      most("b8;r00;", 8 + 7 + 6, 210, 0, 0, 0);
      most("b8;r00;", 8 + 7 + 6 + 5 + 4 + 3, 543210, 0, 0, 0, 0, 0, 0);
      most("b1;o00;r00;", 0, 543210, 0, 0, 0, 0, 0, 0);
      most("b3;r00;r20;", 6 + 2 + 1, 432105, 0, 0, 0, 0, 0, 1);
      most("b3;r00;r20;", 6 + 2 + 1, 543201, 0, 1, 0, 0, 0, 0);
    });
  }

  private static void spoils(String text, int page, int sum, int... readers) {
    TakesAPage x = Check.made(text);
    Check.row(x, 7, 0, readers);
    Check.due("least spoils " + text, x.spoils(0, 7, 0), page);
    Check.due("its sum of " + text, x.spoils(0, 7, 1), sum);
  }

  private static void leastSpoils() {
    Sentence.says("LEAST SPOILS: the PAGE that is IN by which, if it were torn out of a BOOK, WORTHS of "
        + "READERS of a ROW, who READ it then in the ROW's order, are most together, "
        + "of several the least (-4 none is IN)", () -> {
      spoils("b3;n010;n020;r00;", 1, 2, 0);
      spoils("b3;n010;n020;r10;", 1, 2 + 1, 0, 0);
      spoils("b3;r00;", 0, 0, NOBODY);
      spoils("b3;o00;r00;", 1, 0, NOBODY);
      spoils("b8;r00;", 0, 7, 0);
      spoils("b8;n010;n020;n030;n040;n050;n060;o07;r00;", 1, 6, 0);
      spoils("b8;n070;r00;", 7, 7 + 6, 0, 0);
      spoils("b8;o00;o01;o02;o03;o04;o05;o06;r00;", 7, 0, 0);
      spoils("b2;r37;r00;", 0, 1 + 7 + 0, 0, 1);
      spoils("b2;r37;r00;", 0, 1 + 0, 1, 0);
      spoils("b8;r00;", 0, 7 + 6 + 5 + 4 + 3 + 2, 0, 0, 0, 0, 0, 0);
      TakesAPage x = Check.made("b1;o00;r00;");
      Check.row(x, 7, 0, 0);
      Check.due("none is IN", x.spoils(0, 7, 0), -4);
      x.row(7, 0, 0);
      Check.due("none is IN for nobody", x.spoils(0, 7, 0), -4);
    });
    Sentence.says("that sum (without a PAGE that is IN: of the BOOK as it is)", () -> {
      spoils("b1;o00;r69;r00;", -4, 9 + 9 + 0, 0, 0, 1);
      spoils("b8;o00;o01;o02;o03;o04;o05;o06;o07;r69;", -4, 54, 0, 0, 0, 0, 0, 0);
      spoils("b1;o00;r69;", -4, 0, NOBODY);
      spoils("b1;r69;", 0, 9, 0);
    });
  }

  private static void lasts(String text, int want) {
    Check.due("lasts " + text, Check.made(text).lasts(0, 0), want);
  }

  private static void lasts() {
    Sentence.says("LASTS: how many READINGS of a BOOK by one READER, again and again, "
        + "have WORTH above 0 (30 at most)", () -> {
      lasts("b8;r00;", 8);
      lasts("b8;r40;", 4);
      lasts("b7;r40;", 4);
      lasts("b1;r00;", 1);
      lasts("b1;o00;r00;", 0);
      lasts("b1;o00;r69;", 30);
      lasts("b1;o00;r61;", 30);
      lasts("b1;o00;r60;", 0);
      lasts("b8;r78;", 30);
      lasts("b8;r71;", 30);
      lasts("b8;r70;", 8);
      lasts("b8;r77;", 30);
      lasts("b2;n010;o00;r79;", 0);
      lasts("b2;n010;o00;r00;", 0);
      lasts("b8;n010;n020;n030;n040;n050;n060;n070;r00;", 1);
      lasts("b1;o00;r39;", 0);
    });
  }

  private static void laws() {
    Sentence.says("LAW: the sum of WORTHS of RUN, if all READERS were of a KIND and FIGURE.", () -> {
      TakesAPage x = Check.made("b4;n010;n020;n030;r79;r65;");
      Check.row(x, 1, 0, 0, 0, 1, 0);
      int[] of0 = {4, 4 + 3, 8 + 6, 4, 8, 8 + 6, 4, 8 + 6};
      for (int kind = 0; kind < 8; kind++) {
        Check.due("KIND " + kind, x.law(1, kind, 0), of0[kind]);
      }
      Check.due("OWN with 9", x.law(1, 3, 9), 4 + 9 + 3);
      Check.due("TOLD with 9", x.law(1, 6, 9), 4 + 9 + 9);
      Check.due("LEAVES with 9", x.law(1, 7, 9), 8 + 8);
      x.row(1, 0, 0);
      Check.due("no READINGS", x.law(1, 6, 9), 0);
      Check.due("READERS stay", x.reader(0, 0) * 100 + x.reader(1, 0) * 10 + x.reader(1, 1), 765);
    });
    Sentence.says("WITHOUT: RUN's sum, if all READINGS of one READER were left out.", () -> {
      TakesAPage x = Check.made("b4;r00;r10;r20;");
      Check.row(x, 1, 0, 0, 0, 1, 0, 0, 0, 2, 0, 0, 0);
      Check.due("the one of three READINGS", x.without(0, 1), 4 + 6);
      Check.due("another", x.without(1, 1), 4 + 3 + 4 + 1);
      Check.due("the third", x.without(2, 1), 4 + 3 + 2 + 1);
      Check.row(x, 1, 0, 1, 0, 1, 0);
      Check.due("one with all", x.without(1, 1), 0);
      Check.due("one with none", x.without(0, 1), 4 + 3);
      x.row(1, 0, 0);
      Check.due("no READINGS", x.without(0, 1), 0);
    });
  }

  private static void drawers() {
    Sentence.says("PUT TOGETHER: the READERS (bits) who HOLD PAGES of a BOOK; "
        + "-4, if one of its PAGES is OUT and nobody HOLDS it.", () -> {
      Check.due("whole", Check.made("b8;r00;").together(0), 0);
      Check.due("READER 0", Check.made("b8;r00;x00;").together(0), 1);
      Check.due("READER 5 of six",
          Check.made("b8;r00;r00;r00;r00;r00;r00;x50;").together(0), 32);
      Check.due("all six", Check.made(
          "b8;r00;r00;r00;r00;r00;r00;x00;x10;x20;x30;x40;x50;").together(0), 63);
      Check.due("one HOLDS all", Check.made("b2;r40;r00;x00;").together(0), 1);
      Check.due("all torn", Check.made("b1;o00;").together(0), -4);
      Check.due("the last torn", Check.made("b8;r00;x00;o07;").together(0), -4);
      Check.due("the first torn", Check.made("b8;r10;o00;x00;").together(0), -4);
      Check.due("torn in another BOOK", Check.made("b8;b8;r10;o10;x00;").together(0), 1);
      Check.due("held of another BOOK", Check.made("b8;b8;r10;x01;").together(0), 0);
    });
    Sentence.says("HAS: PAGES (bits) of a BOOK that a READER HOLDS.", () -> {
      TakesAPage x = Check.made("b8;b1;r00;r40;x00;x10;o07;");
      Check.due("one", x.has(0, 0), 1);
      Check.due("two", x.has(1, 0), 6);
      Check.due("none", x.has(0, 1), 0);
      x = Check.made("b8;r40;x00;x00;x00;x00;x00;");
      Check.due("all", x.has(0, 0), 255);
      x.brings(0);
      Check.due("none again", x.has(0, 0), 0);
    });
    Sentence.says("TWO COPIES: of two BOOKS of as many PAGES the PAGES (bits) that are IN in one of "
        + "them at least; -4 unlike PAGES.", () -> {
      Check.due("whole ones", Check.made("b8;b8;").copies(0, 1), 255);
      Check.due("one whole", Check.made("b1;b1;o00;").copies(1, 0), 1);
      Check.due("none IN", Check.made("b1;b1;o00;o10;").copies(0, 1), 0);
      Check.due("one OUT in both", Check.made("b3;b3;o00;o01;o11;o12;").copies(0, 1), 5);
      Check.due("7 and 8", Check.made("b7;b8;").copies(0, 1), -4);
      Check.due("8 and 7", Check.made("b8;b7;").copies(0, 1), -4);
      Check.due("as many IN, unlike PAGES", Check.made("b7;b8;o17;").copies(0, 1), -4);
      Check.due("the first and the last", Check.made("b2;b1;b1;b2;o00;").copies(0, 3), 3);
    });
  }

  private static void gaps(String text, int howMany, int first, int... readers) {
    TakesAPage x = Check.made(text);
    Check.row(x, 7, 0, readers);
    Check.due("gaps of " + text, x.gaps(0, 7, 0), howMany);
    Check.due("first of " + text, x.gaps(0, 7, 1), first);
  }

  private static void gaps() {
    Sentence.says("GAPS: at how many places of a ROW there is a READER who, if the BOOK were whole, and "
        + "he READ it once, would make just those PAGES OUT that are OUT now; "
        + "the first such place (-4).", () -> {
      gaps("b3;r00;o00;", 0, -4, NOBODY);
      gaps("b3;r00;", 0, -4, 0);
      gaps("b3;r00;o00;", 1, 0, 0);
      gaps("b3;r00;o00;", 6, 0, 0, 0, 0, 0, 0, 0);
      gaps("b3;r00;r10;o02;", 1, 5, 0, 0, 0, 0, 0, 1);
      gaps("b3;r00;o01;", 0, -4, 0, 0);
      gaps("b3;r00;r40;o00;", 1, 0, 0, 1);
      gaps("b3;r00;r40;o00;o01;", 1, 1, 0, 1);
      gaps("b3;r00;r40;o00;o01;o02;", 0, -4, 0, 1);
      gaps("b1;r40;r39;r69;r79;o00;", 3, 0, 0, 1, 2, 3);
      gaps("b1;r40;r39;r69;r79;", 1, 3, 0, 1, 2, 3);
      gaps("b8;r78;r77;", 1, 0, 0, 1);
      gaps("b8;r78;r77;o00;", 1, 1, 0, 1);
      gaps("b3;n010;n020;r00;x00;r20;", 1, 1, 1, 0);
      gaps("b3;n010;n020;r20;r00;x00;", 1, 1, 1, 0);
    });
  }

  private static void turns(String text, int want) {
    Check.due("turns " + text, Check.made(text).turns(0, 1, 0), want);
  }

  private static void turns() {
    Sentence.says("TURNS: two READERS READ a BOOK by turns, the first begins, as long as some PAGE is IN "
        + "(16 READINGS at most): the sum of the first's WORTHS less the other one's "
        + "(may be below 0).", () -> {
      turns("b1;o00;r69;r00;", 0);
      turns("b1;r69;r00;", 10);
      turns("b1;r00;r69;", 1);
      turns("b2;r00;r69;", 2 - 10);
      turns("b3;r00;r69;", 3 - 11 + 1);
      turns("b3;r40;r00;", 6 - 1);
      turns("b3;r79;r00;", 6 - 3 + 4 - 2 + 2 - 1);
      // Of one who leaves all and one who takes: the sixteenth reading takes the last page.
      turns("b8;r79;r00;", 8 + 7 + 6 + 5 + 4 + 3 + 2 + 1);
      turns("b8;r00;r79;", 8 - 14 + 7 - 12 + 6 - 10 + 5 - 8 + 4 - 6 + 3 - 4 + 2 - 2 + 1);
      // Two who leave all: as many readings each.
      turns("b8;r79;r79;", 0);
      turns("b8;r77;r79;", 16 - 14);
      TakesAPage x = Check.made("b2;r69;");
      Check.due("one READER twice", x.turns(0, 0, 0), 11 - 10);
    });
  }

  private static void prices() {
    Sentence.says("PRICE of a PAGE that is IN: by how much WORTH of its BOOK for a READER is less "
        + "without it (may be below 0).", () -> {
      TakesAPage x = Check.made("b4;n010;n021;r00;r20;r35;r69;o03;");
      int[] ofReader = {3, 2, 1};
      for (int page = 0; page < 3; page++) {
        Check.due("for a READER " + page, x.price(0, 0, page), ofReader[page]);
        Check.due("for a KIND one " + page, x.price(1, 0, page), 2 * ofReader[page]);
        Check.due("for a TOLD one " + page, x.price(3, 0, page), ofReader[page]);
      }
      Check.due("what his own NEEDS", x.price(2, 0, 0), 8);
      Check.due("his own", x.price(2, 0, 1), 7);
      Check.due("behind his own", x.price(2, 0, 2), 1);
      Check.due("it is OUT", x.price(0, 0, 3), -1000000003);
      x = Check.made("b2;n010;o00;r00;r69;");
      Check.due("not understood", x.price(0, 0, 1), 0);
      Check.due("not understood, for a TOLD one", x.price(1, 0, 1), 0);
      Check.due("of 8 the last", Check.made("b8;r00;").price(0, 0, 7), 1);
    });
  }

  private static void howMany(String text, int n, int want) {
    Check.due("howMany " + text + " " + n, Check.made(text).howMany(0, 0, n), want);
  }

  private static void copiesEnough() {
    Sentence.says("HOW MANY: the least number (1 .. 9) of whole copies of a BOOK with which n READINGS "
        + "(1 .. 40) by one READER, each of the copy whose WORTH is greatest by then "
        + "(of several the first), all have WORTH above 0; -4.", () -> {
      for (int n = 1; n <= 40; n++) {
        howMany("b1;r00;", n, n <= 9 ? n : -4);
        howMany("b4;r00;", n, n <= 36 ? (n + 3) / 4 : -4);
        howMany("b8;r00;", n, (n + 7) / 8);
        howMany("b8;r40;", n, n <= 36 ? (n + 3) / 4 : -4);
        howMany("b3;n010;n020;r00;", n, n <= 9 ? n : -4);
        howMany("b3;n010;n020;r10;", n, n <= 27 ? (n + 2) / 3 : -4);
        howMany("b1;r61;", n, 1);
        howMany("b2;r71;", n, 1);
      }
      howMany("b4;o00;o01;o02;o03;r00;", 4, 1);
      howMany("b4;r10;x00;x00;", 5, 2);
      TakesAPage x = Check.made("b4;r00;");
      Check.due("0 READINGS", x.howMany(0, 0, 0), -1);
      Check.due("41 READINGS", x.howMany(0, 0, 41), -1);
    });
  }

  /** z behind so many steps, by numbers so long that nothing is cut but the lowest 32 bits. */
  private static long step(long z) {
    return (z * 1103515245L + 12345L) & 0xffffffffL;
  }

  private static long draw(long z, int below) {
    return (z & 0x7fffffffL) / 65536L % below;
  }

  private static void seeds() {
    Sentence.says("SEEDED: n days (1 .. 40) with a seed z: on each a READER (a DRAW below how many there "
        + "are) READS a BOOK (a DRAW likewise): all WORTHS together.", () -> {
      TakesAPage x = Check.made("b1;r00;");
      Check.due("one day", x.seeded(1, 3), 1);
      Check.due("forty days", x.seeded(40, 3), 1);
      x = Check.made("b1;o00;r69;");
      for (int n = 1; n <= 40; n++) {
        Check.due(n + " days", x.seeded(n, n), 9 * n);
      }
      Check.due("0 days", x.seeded(0, 3), -1);
      Check.due("41 days", x.seeded(41, 3), -1);
      Check.due("-1 days", x.seeded(-1, 3), -1);
    });
    Sentence.says("DRAWS: z becomes z times 1103515245 plus 12345 (an int); a DRAW below n is "
        + "(z without its sign's bit over 65536, cut) modulo n.", () -> {
      int[] seeds = {0, 1, 2, 3, 5, 7, -1, -2, 65535, 65536, 1 << 30, 123456789, -987654321,
        Integer.MAX_VALUE, Integer.MIN_VALUE};
      String[] books = {"b1;o00;", "b1;o00;b2;o10;o11;", "b1;b2;b3;b4;"};
      for (String text : books) {
        TakesAPage x = Check.made(text + "r60;r61;r62;r63;r64;r65;");
        for (int seed : seeds) {
          long reader = step(seed);
          long book = step(reader);
          int drawn = (int) draw(book, x.count(0));
          Check.due("seed " + seed + " of " + text, x.seeded(1, seed),
              draw(reader, 6) + (text.contains("o") ? 0 : drawn + 1));
        }
        x = Check.made("b1;b1;b1;o00;o10;o20;r60;r61;r62;r63;r64;");
        for (int seed : seeds) {
          long z = seed;
          long sum = 0;
          for (int day = 0; day < 40; day++) {
            z = step(z);
            sum += draw(z, 5);
            z = step(z);
          }
          Check.due("forty days of seed " + seed, x.seeded(40, seed), sum);
        }
      }
    });
  }

  private static void judged(String text, int want, int... elements) {
    for (int sort = 0; sort < 3; sort++) {
      TakesAPage x = Check.made(text);
      Check.row(x, 4, sort, elements);
      Check.due("judge, sort " + sort, x.judge(4), want);
    }
  }

  private static void judged() {
    String town = "b3;b2;r00;r40;";
    Sentence.says("JUDGED: a ROW, by threes a READER, a BOOK, and WORTH that is told: one behind the "
        + "other: the place of the first that isn't so (no READER, no BOOK: that one's; "
        + "another WORTH: its place)", () -> {
      judged(town, -4, 0, 0, 3, 0, 0, 2, 0, 0, 1, 0, 0, 0, 0, 0, 0);
      judged(town, 5, 0, 0, 3, 0, 0, 3, 0, 0, 1);
      judged(town, 2, 0, 0, 2, 2, 2, 2);
      judged(town, 2, 0, 0, -3);
      judged(town, 0, 2, 2, 2);
      judged(town, 0, -1, 0, 3);
      judged(town, 1, 1, 2, 3);
      judged(town, 1, 1, -1, 3);
      judged(town, 6, 0, 0, 3, 1, 1, 4, 6, 0, 1);
      judged(town, 7, 0, 0, 3, 1, 1, 4, 0, 4, 1);
      judged(town, 8, 0, 0, 3, 1, 1, 4, 0, 1, 1);
      judged(town, -4, 0, 0, 3, 1, 1, 4, 0, 1, 0);
    });
    Sentence.says("where the last three would begin, if they are not whole and all ahead is so", () -> {
      judged(town, 0, 0);
      judged(town, 0, 0, 0);
      judged(town, 0, 9);
      judged(town, 0, 0, 9);
      judged(town, 3, 0, 0, 3, 0);
      judged(town, 3, 0, 0, 3, 0, 0);
      judged(town, 6, 0, 0, 3, 1, 1, 4, 9, 9);
      judged(town, 5, 0, 0, 3, 1, 1, 9, 0);
      judged(town, 0, 9, 0, 3, 0);
      int[] full = new int[100];
      judged("b1;o00;r00;", 99, full);
      full[98] = 1;
      judged("b1;o00;r00;", 98, full);
    });
    Sentence.says("where the last three would begin, if they are not whole and all ahead is so; -4.", () -> {
      judged(town, -4, NOBODY);
      judged(town, -4, 0, 0, 3);
      judged("b1;o00;r00;", -4, new int[99]);
    });
  }

  private static void images() {
    Sentence.says("THE IMAGE: all that there is, but SHELVES (and THE IMAGE); "
        + "RESTORED all is as it was then.", () -> {
      TakesAPage x = Check.made("b2;r39;");
      Check.due("taken", x.image(), 0);
      Check.town(x, "b8;b8;b8;r00;r00;r00;r00;r00;n010;n110;x00;o07;");
      Check.due("RESTORED", x.restore(), 0);
      TakesAPage other = Check.made("b2;r39;");
      Check.text(x, 0, "b2;r39;");
      Check.same("all is as it was", Check.all(x), Check.all(other));
      Check.due("THE IMAGE is still there", x.read(0, 0), 11);
      Check.due("RESTORED again", x.restore(), 0);
      Check.due("whole again", x.book(0, 2), 3);
      Check.due("a BOOK that comes anew has no NEEDS", Check.town(x, "b8;"), 1);
      Check.due("none", x.page(1, 1, 1), -4);
      Check.due("nor PAGES OUT", x.book(1, 2), 255);
      Check.due("a READER who comes anew", Check.town(x, "r71;"), 1);
      Check.due("HOLDS none", x.reader(1, 2), 0);
    });
    Sentence.says("When THE IMAGE is RESTORED, SHELVES stay as they are.", () -> {
      TakesAPage x = Check.made("b2;r00;");
      x.keep(1, 1, 1, 1);
      x.keep(2, 1, 2, 2);
      Check.row(x, 3, 2, 70000);
      x.image();
      x.keep(1, 0, 0, 0);
      x.keep(2, 1, 6, 9);
      Check.row(x, 3, 1, 5, 6);
      x.keep(4, 1, 0, 1);
      x.read(0, 0);
      Check.due("RESTORED", x.restore(), 0);
      Check.due("nothing", x.fee(1), -11);
      Check.due("the newer READER", x.fee(2), -6);
      Check.due("the newer ROW", Check.element(x, 3, 1), 6);
      Check.due("one more", x.toss(4), 1);
      Check.due("the text", Check.element(x, 0, 0), 'b');
    });
  }
}
