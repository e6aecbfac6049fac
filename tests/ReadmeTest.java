import java.io.ByteArrayOutputStream;
import java.io.IOException;
import java.io.PrintStream;
import java.lang.reflect.Method;
import java.lang.reflect.Modifier;
import java.net.URL;
import java.net.URLClassLoader;
import java.nio.file.Files;
import java.nio.file.Path;
import java.util.regex.Matcher;
import java.util.regex.Pattern;
import javax.tools.ToolProvider;

/** README.md tells what is so: its program prints what stands below it, and no call is left out. */
public final class ReadmeTest {
  public static void main(String[] args) throws Exception {
    String page = Files.readString(Path.of("README.md"));
    callsAreTold(page);
    testsAreThere(page);
    Check.same("the program", printed(block(page, "java")), block(page, "text"));
    Check.end("ReadmeTest");
  }

  private static void callsAreTold(String page) {
    for (Method m : TakesAPage.class.getDeclaredMethods()) {
      if (Modifier.isPublic(m.getModifiers())) {
        Matcher row = Pattern.compile("\\| `" + m.getName() + "\\(([^)]*)\\)` \\|").matcher(page);
        Check.due(m.getName() + " has a row", row.find() ? 1 : 0, 1);
        boolean none = row.group(1).isEmpty();
        Check.due(m.getName() + " has its arguments", none ? 0 : row.group(1).split(",").length,
            m.getParameterCount());
      }
    }
  }

  private static void testsAreThere(String page) throws IOException {
    try (var files = Files.newDirectoryStream(Path.of("tests"), "*Test.java")) {
      for (Path file : files) {
        String name = file.getFileName().toString().replace(".java", "");
        boolean told = page.contains("`" + name + "`") || name.startsWith("Sentences");
        Check.due(name + " is told", told ? 1 : 0, 1);
      }
    }
    Matcher m = Pattern.compile("`([A-Z]\\w*Test)`").matcher(page);
    while (m.find()) {
      boolean there = Files.exists(Path.of("tests", m.group(1) + ".java"));
      Check.due(m.group(1) + " is there", there ? 1 : 0, 1);
    }
  }

  private static String block(String page, String kind) {
    Matcher m = Pattern.compile("(?s)```" + kind + "\n(.*?)```").matcher(page);
    return m.find() ? m.group(1) : "no block of " + kind;
  }

  private static String printed(String program) throws Exception {
    Path folder = Files.createTempDirectory("readme");
    Path source = folder.resolve("First.java");
    Path made = folder.resolve("First.class");
    Files.writeString(source, program);
    int compiled = ToolProvider.getSystemJavaCompiler().run(null, null, null, "-cp",
        System.getProperty("java.class.path"), "-d", folder.toString(), source.toString());
    Check.due("it compiles", compiled, 0);
    PrintStream screen = System.out;
    ByteArrayOutputStream caught = new ByteArrayOutputStream();
    try (URLClassLoader loader = new URLClassLoader(new URL[] {folder.toUri().toURL()})) {
      System.setOut(new PrintStream(caught, true));
      loader.loadClass("First").getMethod("main", String[].class).invoke(null, (Object) new String[0]);
    } finally {
      System.setOut(screen);
      Files.deleteIfExists(made);
      Files.deleteIfExists(source);
      Files.deleteIfExists(folder);
    }
    return caught.toString().replace(System.lineSeparator(), "\n");
  }
}
