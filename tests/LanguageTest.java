import java.io.IOException;
import java.lang.reflect.Constructor;
import java.lang.reflect.Field;
import java.lang.reflect.Method;
import java.lang.reflect.Modifier;
import java.nio.file.Files;
import java.nio.file.Path;
import java.util.ArrayList;
import java.util.Arrays;
import java.util.List;
import java.util.TreeSet;
import java.util.regex.Matcher;
import java.util.regex.Pattern;

/** The face of the class, and what of LANGUAGE.md can be seen in its text and its members. */
public final class LanguageTest {
  private static final String[] FACE = {
    "int town(int)", "int book(int,int)", "int page(int,int,int)", "int reader(int,int)",
    "int understands(int)", "int worth(int,int)", "int takes(int,int)", "int read(int,int)",
    "int brings(int)", "int run(int,int)", "int most(int,int,int)", "int spoils(int,int,int)",
    "int lasts(int,int)", "int law(int,int,int)", "int without(int,int)", "int has(int,int)",
    "int together(int)", "int copies(int,int)", "int gaps(int,int,int)", "int turns(int,int,int)",
    "int price(int,int,int)", "int howMany(int,int,int)", "int seeded(int,int)", "int judge(int)",
    "int image()", "int restore()", "int count(int)", "int keep(int,int,int,int)",
    "int row(int,int,int)", "int put(int,int,int)", "long element(int,int)",
    "int copy(int,int,int,int,int)", "int comes(int)", "int fee(int)", "int toss(int)"
  };

  private static final String[] FORBIDDEN = {
    "(?m)^(?!\\s*(case|default)\\b).*->", "::", "\\bpackage\\b",
    "\\bimport\\b(?! java\\.util\\.(ArrayList|List|Arrays|Iterator|NoSuchElementException);)",
    "\\bsynchronized\\b", "\\bassert\\b",
    "\\bfinally\\b", "\\bnative\\b", "\\bvolatile\\b", "\\bprotected\\b",
    "Exact\\b", "static\\s*\\{", "try\\s*\\(", "\"\\s*\\+", "\\+\\s*\"", "\\bThread\\b",
    "\\bObject\\b", "\\bClass\\b", "\\bNullPointerException\\b", "\\bArrayIndexOutOfBounds",
    "\\bClassCastException\\b", "\\bNegativeArraySize", "\\bThrowable\\b", "\\bError\\b",
    "catch\\s*\\(\\s*(RuntimeException|Exception|ArithmeticException|IndexOutOfBoundsException)",
    "System\\.(?!arraycopy\\b)", "Math\\.(random|sqrt|pow|exp|log|round|rint|ceil|floor)\\b",
    "(Integer|Long)\\.(parse|valueOf|decode|to[A-Z]|get)"
  };

  public static void main(String[] args) throws IOException {
    face();
    members();
    text();
    Check.end("LanguageTest");
  }

  private static void face() {
    Class<?> c = TakesAPage.class;
    Check.due("final", Modifier.isFinal(c.getModifiers()) ? 1 : 0, 1);
    Check.due("constructors", c.getDeclaredConstructors().length, 1);
    Check.due("it is public", c.getConstructors().length, 1);
    TreeSet<String> found = new TreeSet<>();
    TreeSet<String> names = new TreeSet<>();
    for (Method m : c.getDeclaredMethods()) {
      if (!Modifier.isPrivate(m.getModifiers())) {
        found.add(told(m));
        names.add(m.getName());
        Check.due(m + " is public", Modifier.isPublic(m.getModifiers()) ? 1 : 0, 1);
        Check.due(m + " throws", m.getExceptionTypes().length, m.getName().equals("element") ? 2 : 0);
      }
    }
    Check.same("face", found.toString(), new TreeSet<>(Arrays.asList(FACE)).toString());
    for (Class<?> k : all()) {
      for (Method m : k.getDeclaredMethods()) {
        boolean hidden = Modifier.isPrivate(m.getModifiers());
        Check.due(m + " bears a name of the face", hidden && names.contains(m.getName()) ? 1 : 0, 0);
      }
    }
  }

  private static String told(Method m) {
    StringBuilder s = new StringBuilder(m.getReturnType() + " " + m.getName() + "(");
    for (int k = 0; k < m.getParameterCount(); k++) {
      s.append(k == 0 ? "" : ",").append(m.getParameterTypes()[k]);
    }
    return s.append(')').toString();
  }

  private static List<Class<?>> all() {
    List<Class<?>> all = new ArrayList<>();
    all.add(TakesAPage.class);
    all.addAll(Arrays.asList(TakesAPage.class.getDeclaredClasses()));
    return all;
  }

  private static void members() {
    Check.due("at most twelve classes", all().size() <= 12 ? 1 : 0, 1);
    for (Class<?> k : all()) {
      boolean outer = k == TakesAPage.class;
      int fields = 0;
      for (Field f : k.getDeclaredFields()) {
        boolean fixed = Modifier.isStatic(f.getModifiers());
        fields += fixed ? 0 : 1;
        Check.due(f + " is final", fixed && !Modifier.isFinal(f.getModifiers()) ? 1 : 0, 0);
        Check.due(f + " is private", outer && !Modifier.isPrivate(f.getModifiers()) ? 1 : 0, 0);
      }
      Check.due(k + " has at most twenty fields", fields <= 20 ? 1 : 0, 1);
      Check.due(k + " is static", outer || Modifier.isStatic(k.getModifiers()) ? 1 : 0, 1);
      Check.due(k + " isn't public", !outer && Modifier.isPublic(k.getModifiers()) ? 1 : 0, 0);
      for (Method m : k.getDeclaredMethods()) {
        Check.due(m + " has at most seven parameters", m.getParameterCount() <= 7 ? 1 : 0, 1);
      }
      for (Constructor<?> m : k.getDeclaredConstructors()) {
        Check.due(m + " has at most seven parameters", m.getParameterCount() <= 7 ? 1 : 0, 1);
      }
    }
  }

  private static void text() throws IOException {
    String source = Files.readString(Path.of("src/main/java/TakesAPage.java"));
    for (int k = 0; k < source.length(); k++) {
      if (source.charAt(k) > 126) {
        Check.due("sign " + (int) source.charAt(k) + " at " + k, 1, 0);
      }
    }
    String code = source.replaceAll("(?s)/\\*.*?\\*/", "").replaceAll("//[^\n]*", "");
    for (String forbidden : FORBIDDEN) {
      Matcher m = Pattern.compile(forbidden).matcher(code);
      Check.due("in the code: " + forbidden, m.find() ? 1 : 0, 0);
    }
    String[] lines = source.split("\n");
    for (int k = 0; k < lines.length; k++) {
      if (lines[k].matches("  (  )?[A-Za-z].*\\) .*\\{") && !lines[k].contains("class ")) {
        String end = lines[k].replaceAll("\\S.*", "") + "}";
        int length = 0;
        while (!lines[k + length].equals(end)) {
          length++;
        }
        Check.due("method in line " + (k + 1) + " is long", length > 60 ? 1 : 0, 0);
      }
    }
  }
}
