import com.sun.source.tree.ClassTree;
import com.sun.source.tree.CompilationUnitTree;
import com.sun.source.tree.MethodInvocationTree;
import com.sun.source.tree.MethodTree;
import com.sun.source.tree.NewClassTree;
import com.sun.source.util.JavacTask;
import com.sun.source.util.TreePathScanner;
import com.sun.source.util.Trees;
import java.nio.file.Path;
import java.util.ArrayList;
import java.util.LinkedHashMap;
import java.util.LinkedHashSet;
import java.util.List;
import java.util.Map;
import java.util.Set;
import javax.lang.model.element.Element;
import javax.lang.model.element.ExecutableElement;
import javax.lang.model.element.TypeElement;
import javax.tools.JavaCompiler;
import javax.tools.StandardJavaFileManager;
import javax.tools.ToolProvider;

/**
 * Which method calls which, as the compiler itself reads the class: rules 4, 6, 8 and 11 of
 * LANGUAGE.md. A call of a method that others override counts as a call of each of them.
 */
public final class CallsTest {
  private static final int DEEPEST = 8;
  /** What rule 4 leaves of the library, and the exceptions of rule 6. */
  private static final String[] LIBRARY = {
    "lang\\.String\\.(length|charAt|isEmpty|equals|indexOf|substring|toCharArray|<init>)",
    "lang\\.(Abstract)?StringBuilder\\.(<init>|append|charAt|setCharAt|setLength|deleteCharAt|reverse"
        + "|length|toString)",
    "util\\.(ArrayList|List)\\.(<init>|add|get|set|remove|size|isEmpty|clear|of)",
    "lang\\.(Integer|Long|Math)\\.(compare|max|min|abs|bitCount|floorDiv|floorMod|signum)",
    "lang\\.(Integer|Long)\\.(highest|lowest)OneBit",
    "lang\\.(Integer|Long)\\.numberOf(Leading|Trailing)Zeros",
    "lang\\.System\\.arraycopy", "util\\.Arrays\\.(copyOf|copyOfRange|fill)",
    "lang\\.Object\\.<init>",
    "lang\\.(IllegalState|IllegalArgument|IndexOutOfBounds|Arithmetic|UnsupportedOperation|Runtime)"
        + "Exception\\.<init>",
    "util\\.NoSuchElementException\\.<init>"
  };

  private static final Map<Element, Set<Element>> calls = new LinkedHashMap<>();
  private static int classes = 0;
  private static Trees trees;
  private static JavacTask task;

  public static void main(String[] args) throws Exception {
    JavaCompiler compiler = ToolProvider.getSystemJavaCompiler();
    try (StandardJavaFileManager files = compiler.getStandardFileManager(null, null, null)) {
      task = (JavacTask) compiler.getTask(null, files, null, List.of("-proc:none"), null,
          files.getJavaFileObjects(Path.of("src/main/java/TakesAPage.java")));
      trees = Trees.instance(task);
      Iterable<? extends CompilationUnitTree> units = task.parse();
      task.analyze();
      for (CompilationUnitTree unit : units) {
        new Reader().scan(unit, null);
      }
    }
    Check.due("classes, more than twelve of them", classes > 12 ? classes : 0, 0);
    Check.due("every call of the face is seen", calls.size() > 35 ? 1 : 0, 1);
    for (Element method : calls.keySet()) {
      int deep = depth(method, new ArrayList<>());
      Check.due(method + " goes deeper than " + DEEPEST, deep > DEEPEST ? deep : 0, 0);
    }
    Check.end("CallsTest");
  }

  /** Each method that is open already would be one that calls itself: of these there are none. */
  private static int depth(Element method, List<Element> open) {
    Check.due(method + " calls itself", open.contains(method) ? 1 : 0, 0);
    if (open.contains(method)) {
      return 0;
    }
    open.add(method);
    int deepest = 0;
    for (Element called : calls.getOrDefault(method, Set.of())) {
      deepest = Math.max(deepest, depth(called, open));
    }
    open.remove(open.size() - 1);
    return 1 + deepest;
  }

  private static final class Reader extends TreePathScanner<Void, Element> {
    @Override
    public Void visitClass(ClassTree tree, Element in) {
      classes++;
      return super.visitClass(tree, in);
    }

    @Override
    public Void visitMethod(MethodTree tree, Element in) {
      Element method = trees.getElement(getCurrentPath());
      calls.putIfAbsent(method, new LinkedHashSet<>());
      return super.visitMethod(tree, method);
    }

    @Override
    public Void visitMethodInvocation(MethodInvocationTree tree, Element in) {
      String told = tree.getMethodSelect().toString();
      called(in, told.equals("super") || told.startsWith("super."));
      return super.visitMethodInvocation(tree, in);
    }

    @Override
    public Void visitNewClass(NewClassTree tree, Element in) {
      called(in, true);
      return super.visitNewClass(tree, in);
    }

    private void called(Element in, boolean justThisOne) {
      Element method = trees.getElement(getCurrentPath());
      String owner = method.getEnclosingElement().toString();
      if (!owner.equals("TakesAPage") && !owner.startsWith("TakesAPage.")) {
        String name = owner + "." + method.getSimpleName();
        Check.due("the library's " + name + " is left", isLeft(name) ? 1 : 0, 1);
      } else if (in != null) {
        calls.get(in).add(method);
        if (!justThisOne) {
          calls.get(in).addAll(overriding(method));
        }
      }
    }

    private static boolean isLeft(String name) {
      for (String some : LIBRARY) {
        if (name.matches("java\\." + some)) {
          return true;
        }
      }
      return false;
    }

    private static Set<Element> overriding(Element method) {
      Set<Element> found = new LinkedHashSet<>();
      TypeElement face = (TypeElement) outermost(method);
      for (Element inner : face.getEnclosedElements()) {
        for (Element other : inner instanceof TypeElement ? inner.getEnclosedElements() : List.<Element>of()) {
          if (other instanceof ExecutableElement && method instanceof ExecutableElement
              && task.getElements().overrides((ExecutableElement) other, (ExecutableElement) method,
                  (TypeElement) inner)) {
            found.add(other);
          }
        }
      }
      return found;
    }

    private static Element outermost(Element method) {
      Element at = method.getEnclosingElement();
      while (at.getEnclosingElement() instanceof TypeElement) {
        at = at.getEnclosingElement();
      }
      return at;
    }
  }
}
