/** What the tests share: counting wrong answers, loading shelves, telling all of a state. */
final class Check {
  /** Far above what any test needs: a call that doesn't end fails its test, too. */
  private static final int MOST_SECONDS = 300;

  private static int wrong = 0;
  private static int asked = 0;

  static {
    Thread watch = new Thread(Check::failLate);
    watch.setDaemon(true);
    watch.start();
  }

  private Check() {}

  private static void failLate() {
    try {
      Thread.sleep(MOST_SECONDS * 1000L);
      System.out.println("no end after " + MOST_SECONDS + " seconds");
      Runtime.getRuntime().halt(1);
    } catch (InterruptedException e) {
      // Nobody waits for this thread.
    }
  }

  static void due(String call, long got, long want) {
    asked++;
    if (got != want) {
      wrong++;
      if (wrong <= 40) {
        System.out.println(call + " answered " + got + ", due is " + want);
      }
    }
  }

  static int wrong() {
    return wrong;
  }

  static void same(String what, String got, String want) {
    asked++;
    if (!got.equals(want)) {
      wrong++;
      if (wrong <= 40) {
        System.out.println(what + ": " + got + ", due is " + want);
      }
    }
  }

  /** Ends the test: exit code 1 if an answer was wrong. */
  static void end(String test) {
    System.out.println(test + ": " + asked + " answers, " + wrong + " wrong");
    if (wrong != 0 || asked == 0) {
      System.exit(1);
    }
  }

  /** A ROW of a SORT with these elements. */
  static void row(TakesAPage x, int d, int sort, int... elements) {
    due("row", x.row(d, sort, elements.length), 0);
    for (int i = 0; i < elements.length; i++) {
      due("put", x.put(d, i, elements[i]), 0);
    }
  }

  static void text(TakesAPage x, int d, String text) {
    int[] bytes = new int[text.length()];
    for (int i = 0; i < bytes.length; i++) {
      bytes[i] = text.charAt(i);
    }
    row(x, d, 0, bytes);
  }

  /** What a text answers, told to this object by SHELF 0. */
  static int town(TakesAPage x, String text) {
    text(x, 0, text);
    return x.town(0);
  }

  /** A new object with a TOWN that must be well. */
  static TakesAPage made(String text) {
    TakesAPage x = new TakesAPage();
    if (town(x, text) <= 0) {
      due("town " + text, 0, 1);
    }
    return x;
  }

  /** The element, or Long.MIN_VALUE plus 1 (IllegalArgumentException) or 2 (IllegalStateException). */
  static long element(TakesAPage x, int d, int i) {
    try {
      long element = x.element(d, i);
      // No element is greater than an int, so what is told of exceptions can't be an answer.
      return element == (int) element ? element : Long.MAX_VALUE;
    } catch (IllegalArgumentException e) {
      return Long.MIN_VALUE + 1;
    } catch (IllegalStateException e) {
      return Long.MIN_VALUE + 2;
    }
  }

  /** All that can be asked without changing anything, but the image and the SORTS of ROWS. */
  static String all(TakesAPage x) {
    StringBuilder told = new StringBuilder();
    for (int what = 0; what < 5; what++) {
      told.append(x.count(what)).append(' ');
    }
    for (int book = 0; book < 4; book++) {
      int pages = x.book(book, 0);
      told.append("|b").append(pages).append(' ').append(x.book(book, 2));
      for (int page = 0; page < pages; page++) {
        told.append(' ').append(x.page(book, page, 1)).append(' ').append(x.page(book, page, 2));
      }
    }
    for (int reader = 0; reader < 6; reader++) {
      told.append("|r").append(x.reader(reader, 0)).append(' ').append(x.reader(reader, 1));
    }
    for (int d = 0; d < 8; d++) {
      told.append("|s").append(x.fee(d)).append(' ').append(x.toss(d));
      for (int i = 0; i < 101; i++) {
        long element = element(x, d, i);
        if (element <= Long.MIN_VALUE + 2) {
          break;
        }
        told.append(' ').append(element);
      }
    }
    return told.toString();
  }
}
