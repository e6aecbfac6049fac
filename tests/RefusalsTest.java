import java.io.IOException;
import java.util.ArrayList;
import java.util.List;

/** A refused call changes nothing: of two objects made alike, one is refused, and both tell the same. */
public final class RefusalsTest {
  interface Call {
    int on(TakesAPage x);
  }

  private static final List<Call> CALLS = new ArrayList<>();

  public static void main(String[] args) throws IOException {
    gather();
    Sentence.says("A refused call changes nothing.", () -> {
      for (int k = 0; k < CALLS.size(); k++) {
        refuse(k);
      }
    });
    Sentence.says("A refused call changes nothing.", RefusalsTest::fullTownStays);
    Sentence.says("A refused call changes nothing.", RefusalsTest::withoutAnImage);
    Sentence.end("RefusalsTest");
  }

  private static TakesAPage full() {
    TakesAPage x = Check.made("b8;b1;b2;b3;r00;r11;r22;r33;r44;r55;n070;x50;x01;o21;");
    x.keep(3, 1, 6, 6);
    return x;
  }

  /** No room: neither the statements of a text nor a READER from a SHELF. */
  private static void fullTownStays() {
    String[] texts = {"x00;b1;", "o30;r00;", "n032;r77;x00;", "b1;", "r00;x"};
    int[] faults = {-2004, -2004, -2005, -2000, -1005};
    for (int k = 0; k < texts.length; k++) {
      TakesAPage one = full();
      TakesAPage other = full();
      Check.text(other, 4, texts[k]);
      Check.text(one, 4, texts[k]);
      Check.due("town " + texts[k], one.town(4), faults[k]);
      Check.due("comes", one.comes(3), -2);
      Check.due("restore", one.restore(), -3);
      Check.same("behind " + texts[k], Check.all(one), Check.all(other));
    }
  }

  private static void withoutAnImage() {
    TakesAPage x = Check.made("b2;r00;x00;");
    Check.due("restore", x.restore(), -3);
    Check.due("DAY", x.count(2), 1);
    Check.due("PAGES", x.book(0, 2), 2);
    Check.due("still none", x.restore(), -3);
    Check.due("image", x.image(), 1);
    Check.due("town", Check.town(x, "x00;b9;"), -2004);
    Check.due("read", x.read(0, 1), -1);
    Check.due("restore", x.restore(), 1);
    Check.due("PAGES", x.book(0, 2), 2);
  }

  private static TakesAPage setUp() {
    TakesAPage x = Check.made("b3;b2;n010;r15;r20;r64;x00;");
    Check.due("image", x.image(), 1);
    Check.due("read", x.read(1, 1), 4);
    Check.row(x, 1, 0, 0, 1);
    Check.row(x, 2, 1, 300, -2, 5);
    Check.row(x, 3, 2, 70000);
    Check.due("keep", x.keep(4, 1, 7, 3), 0);
    Check.text(x, 5, "b2;r00;o00;o00;");
    Check.text(x, 6, "x00;x");
    return x;
  }

  private static void refuse(int k) {
    TakesAPage one = setUp();
    TakesAPage other = setUp();
    int answer = CALLS.get(k).on(one);
    Check.due("call " + k + " is refused, and not by " + answer, answer < 0 ? 1 : 0, 1);
    Check.same("behind call " + k, Check.all(one), Check.all(other));
    for (int d = 0; d < 8; d++) {
      for (int e = 0; e < 8; e++) {
        Check.due("held alike behind call " + k, one.copy(d, 0, e, 0, 0), other.copy(d, 0, e, 0, 0));
      }
    }
    Check.due("image", one.restore(), other.restore());
    Check.same("image behind call " + k, Check.all(one), Check.all(other));
  }

  private static void gather() {
    int[] noShelves = {-1, 8, Integer.MIN_VALUE, Integer.MAX_VALUE};
    for (int d : noShelves) {
      shelfCalls(d);
    }
    shelfCalls(7);
    CALLS.add(x -> x.town(4));
    CALLS.add(x -> x.town(2));
    CALLS.add(x -> x.town(5));
    CALLS.add(x -> x.town(6));
    int[] notAsTold = {2, 3, 4, 5, 6, 7};
    for (int d : notAsTold) {
      CALLS.add(x -> x.run(d, 0));
      CALLS.add(x -> x.most(0, d, 1));
      CALLS.add(x -> x.spoils(0, d, 1));
      CALLS.add(x -> x.gaps(0, d, 1));
      CALLS.add(x -> x.law(d, 2, 2));
      CALLS.add(x -> x.without(1, d));
    }
    CALLS.add(x -> x.law(1, 8, 0));
    CALLS.add(x -> x.law(1, 0, 10));
    CALLS.add(x -> (int) Math.max(-9, Check.element(x, 8, 0)));
    CALLS.add(x -> (int) Math.max(-9, Check.element(x, 4, 0)));
    CALLS.add(x -> (int) Math.max(-9, Check.element(x, 1, 2)));
    CALLS.add(x -> x.copies(0, 0));
    CALLS.add(x -> x.judge(4));
    CALLS.add(x -> x.put(4, 0, 1));
    CALLS.add(x -> x.put(1, 2, 1));
    CALLS.add(x -> x.put(1, -1, 1));
    CALLS.add(x -> x.comes(1));
    CALLS.add(x -> x.fee(1));
    CALLS.add(x -> x.toss(1));
    CALLS.add(x -> x.copy(1, 0, 2, 0, 1));
    CALLS.add(x -> x.copy(1, 0, 1, 1, 2));
    CALLS.add(x -> x.copy(1, 0, 4, 0, 1));
    CALLS.add(x -> x.keep(1, 2, 0, 0));
    CALLS.add(x -> x.keep(1, 1, 8, 0));
    CALLS.add(x -> x.keep(1, 1, 0, 10));
    CALLS.add(x -> x.row(1, 3, 1));
    CALLS.add(x -> x.row(1, 0, 101));
    CALLS.add(x -> x.row(1, 0, -1));
    readerAndBookCalls();
    CALLS.add(x -> x.seeded(0, 1));
    CALLS.add(x -> x.seeded(41, 1));
    CALLS.add(x -> x.howMany(0, 0, 0));
    CALLS.add(x -> x.howMany(0, 0, 41));
    CALLS.add(x -> x.price(0, 0, 3));
    CALLS.add(x -> x.price(0, 0, 2));
    CALLS.add(x -> x.count(5));
  }

  private static void shelfCalls(int d) {
    CALLS.add(x -> x.town(d));
    CALLS.add(x -> x.run(d, 0));
    CALLS.add(x -> x.most(0, d, 0));
    CALLS.add(x -> x.spoils(0, d, 0));
    CALLS.add(x -> x.law(d, 0, 0));
    CALLS.add(x -> x.without(0, d));
    CALLS.add(x -> x.gaps(0, d, 0));
    CALLS.add(x -> x.judge(d));
    CALLS.add(x -> x.put(d, 0, 1));
    CALLS.add(x -> x.copy(d, 0, 1, 0, 1));
    CALLS.add(x -> x.copy(1, 0, d, 0, 1));
    CALLS.add(x -> x.comes(d));
    CALLS.add(x -> x.fee(d));
    CALLS.add(x -> x.toss(d));
    CALLS.add(x -> x.keep(d, d == 7 ? 2 : 0, 0, 0));
    CALLS.add(x -> x.row(d, d == 7 ? 3 : 0, 0));
  }

  private static void readerAndBookCalls() {
    int[] none = {-1, 3, 6, Integer.MIN_VALUE, Integer.MAX_VALUE};
    for (int n : none) {
      CALLS.add(x -> x.book(n, 0));
      CALLS.add(x -> x.book(0, n));
      CALLS.add(x -> x.page(n, 0, 0));
      CALLS.add(x -> x.page(0, n, 0));
      CALLS.add(x -> x.page(0, 0, n));
      CALLS.add(x -> x.reader(n, 0));
      CALLS.add(x -> x.reader(0, n));
      CALLS.add(x -> x.understands(n));
      CALLS.add(x -> x.worth(n, 0));
      CALLS.add(x -> x.worth(0, n));
      CALLS.add(x -> x.takes(n, 0));
      CALLS.add(x -> x.takes(0, n));
      CALLS.add(x -> x.read(n, 0));
      CALLS.add(x -> x.read(0, n));
      CALLS.add(x -> x.brings(n));
      CALLS.add(x -> x.run(1, n));
      CALLS.add(x -> x.most(n, 1, 0));
      CALLS.add(x -> x.most(0, 1, n));
      CALLS.add(x -> x.spoils(n, 1, 0));
      CALLS.add(x -> x.spoils(0, 1, n));
      CALLS.add(x -> x.lasts(n, 0));
      CALLS.add(x -> x.lasts(0, n));
      CALLS.add(x -> x.without(n, 1));
      CALLS.add(x -> x.has(n, 0));
      CALLS.add(x -> x.has(0, n));
      CALLS.add(x -> x.together(n));
      CALLS.add(x -> x.copies(n, 0));
      CALLS.add(x -> x.copies(0, n));
      CALLS.add(x -> x.gaps(n, 1, 0));
      CALLS.add(x -> x.gaps(0, 1, n));
      CALLS.add(x -> x.turns(n, 0, 0));
      CALLS.add(x -> x.turns(0, n, 0));
      CALLS.add(x -> x.turns(0, 0, n));
      CALLS.add(x -> x.price(n, 0, 0));
      CALLS.add(x -> x.price(0, n, 0));
      CALLS.add(x -> x.howMany(n, 0, 1));
      CALLS.add(x -> x.howMany(0, n, 1));
    }
  }
}
