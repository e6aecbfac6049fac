import java.io.IOException;
import java.nio.file.Files;
import java.nio.file.Path;
import java.util.ArrayList;
import java.util.List;

/** A sentence of the document that has a test of its own: its words, and calls that show it. */
final class Sentence {
  interface Shown {
    void run();
  }

  private static final Path DOCUMENT = Path.of("../shared/DOC.md");
  private static final List<String> told = new ArrayList<>();
  private static int broken = 0;

  private Sentence() {}

  /** The words stand in the document as they stand here, but for the ends of its lines. */
  static void says(String words, Shown shown) {
    told.add(words);
    int before = Check.wrong();
    shown.run();
    if (Check.wrong() != before) {
      broken++;
      System.out.println("broken: \"" + words + "\"");
    }
  }

  /** Numbers that lie outside of low .. high: beside its ends, and as far away as can be. */
  static int[] outside(int low, int high) {
    return new int[] {low - 1, high + 1, Integer.MIN_VALUE, Integer.MAX_VALUE};
  }

  static void end(String test) throws IOException {
    if (Files.isReadable(DOCUMENT)) {
      String document = Files.readString(DOCUMENT).replaceAll("\\s+", " ");
      for (String words : told) {
        Check.due("the document says \"" + words + "\"", document.contains(words) ? 1 : 0, 1);
      }
    }
    System.out.println(test + ": " + told.size() + " sentences, " + broken + " broken");
    Check.end(test);
  }
}
