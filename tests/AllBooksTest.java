/**
 * Every READER that can be (8 KINDS, 10 FIGURES) before every book of 1 .. 8 pages, with every choice
 * of pages torn out and some ways of needing one another, held against the model.
 */
public final class AllBooksTest {
  private static final int WAYS = 6;

  public static void main(String[] args) {
    for (int pages = 1; pages <= 8; pages++) {
      for (int way = 0; way < WAYS; way++) {
        for (int out = 0; out < 1 << pages; out++) {
          String book = book(pages, way, out);
          for (int first = 0; first < 80; first += 6) {
            ask(book, first);
          }
        }
      }
    }
    Check.end("AllBooksTest");
  }

  /** Ways: none needs another, a chain, a star, pairs, two made by numbers. */
  private static int need(int way, int page) {
    switch (way) {
      case 1: return page - 1;
      case 2: return 0;
      case 3: return page % 2 == 1 ? page - 1 : -1;
      case 4: return page < 3 ? -1 : page * page * 7 % (page - 1);
      case 5: return page < 2 ? -1 : page * 5 / 3 % page;
      default: return -1;
    }
  }

  private static String book(int pages, int way, int out) {
    StringBuilder text = new StringBuilder("b").append(pages).append(';');
    for (int page = 1; page < pages; page++) {
      if (need(way, page) >= 0) {
        text.append('n').append('0').append(page).append(need(way, page)).append(';');
      }
    }
    for (int page = 0; page < pages; page++) {
      if ((out >> page & 1) != 0) {
        text.append('o').append('0').append(page).append(';');
      }
    }
    return text.toString();
  }

  private static void ask(String book, int first) {
    StringBuilder text = new StringBuilder(book);
    int readers = Math.min(6, 80 - first);
    for (int k = first; k < first + readers; k++) {
      text.append('r').append(k / 10).append(k % 10).append(';');
    }
    TakesAPage x = Check.made(text.toString());
    Model m = new Model();
    m.row(0, 0, text.length());
    for (int i = 0; i < text.length(); i++) {
      m.put(0, i, text.charAt(i));
    }
    m.town(0);
    Check.due("understands " + text, x.understands(0), m.understands(0));
    for (int r = 0; r < readers; r++) {
      String who = " of " + r + " in " + text;
      Check.due("worth" + who, x.worth(r, 0), m.worth(r, 0));
      Check.due("takes" + who, x.takes(r, 0), m.takes(r, 0));
      Check.due("lasts" + who, x.lasts(r, 0), m.lasts(r, 0));
      Check.due("howMany" + who, x.howMany(r, 0, 7), m.howMany(r, 0, 7));
      Check.due("turns" + who, x.turns(r, 0, 0), m.turns(r, 0, 0));
      Check.due("price" + who, x.price(r, 0, 0), m.price(r, 0, 0));
    }
    for (int r = 0; r < readers; r++) {
      String who = " of " + r + " in " + text;
      Check.due("read" + who, x.read(r, 0), m.read(r, 0));
      Check.due("has" + who, x.has(r, 0), m.has(r, 0));
      Check.due("brings" + who, x.brings(r), m.brings(r));
      Check.due("in again" + who, x.book(0, 2), m.book(0, 2));
    }
  }
}
