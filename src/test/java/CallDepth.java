import com.sun.source.tree.MethodInvocationTree;
import com.sun.source.tree.MethodTree;
import com.sun.source.tree.NewClassTree;
import com.sun.source.tree.Tree;
import com.sun.source.util.JavacTask;
import com.sun.source.util.TreePathScanner;
import com.sun.source.util.Trees;
import java.io.IOException;
import java.nio.file.Path;
import java.util.ArrayList;
import java.util.HashMap;
import java.util.HashSet;
import java.util.List;
import java.util.Map;
import java.util.Set;
import java.util.TreeSet;
import javax.lang.model.element.Element;
import javax.tools.JavaCompiler;
import javax.tools.StandardJavaFileManager;
import javax.tools.ToolProvider;

/** Which methods and constructors of a source call which, as javac understands it. */
final class CallDepth {
  private final Map<String, Set<String>> calls = new HashMap<>();
  private final Map<String, Set<String>> reached = new HashMap<>();
  private final Map<String, Integer> depths = new HashMap<>();

  CallDepth(Path source) throws IOException {
    JavaCompiler compiler = ToolProvider.getSystemJavaCompiler();
    try (StandardJavaFileManager files = compiler.getStandardFileManager(null, null, null)) {
      JavacTask task = (JavacTask) compiler.getTask(null, files, null, List.of("-proc:none"), null, files.getJavaFileObjects(source));
      Iterable<? extends Tree> units = task.parse();
      task.analyze();
      new Finder(Trees.instance(task)).scan(units, null);
    }
    calls.keySet().forEach(from -> reached.put(from, reach(from)));
  }

  /** Walks through the source; the second argument is the method that it is in. */
  private final class Finder extends TreePathScanner<Void, String> {
    private final Trees trees;

    private Finder(Trees trees) {
      this.trees = trees;
    }

    private String here() {
      Element method = trees.getElement(getCurrentPath());
      return method.getEnclosingElement() + "." + method.getSimpleName();
    }

    @Override
    public Void visitMethod(MethodTree tree, String in) {
      calls.computeIfAbsent(here(), any -> new TreeSet<>());
      return super.visitMethod(tree, here());
    }

    @Override
    public Void visitMethodInvocation(MethodInvocationTree tree, String in) {
      return found(in, super.visitMethodInvocation(tree, in));
    }

    @Override
    public Void visitNewClass(NewClassTree tree, String in) {
      return found(in, super.visitNewClass(tree, in));
    }

    private Void found(String in, Void nothing) {
      if (in != null) {
        calls.get(in).add(here());
      }
      return nothing;
    }
  }

  private Set<String> reach(String from) {
    Set<String> all = new HashSet<>();
    List<String> open = new ArrayList<>(calls.get(from));
    while (!open.isEmpty()) {
      String one = open.remove(open.size() - 1);
      if (calls.containsKey(one) && all.add(one)) {
        open.addAll(calls.get(one));
      }
    }
    return all;
  }

  Set<String> methods() {
    return calls.keySet();
  }

  boolean isRecursive(String method) {
    return reached.get(method).contains(method);
  }

  private boolean areOneRecursion(String a, String b) {
    return a.equals(b) || (reached.get(a).contains(b) && reached.get(b).contains(a));
  }

  /** How many methods stand open at once from this one on, where methods that call one another count as one. */
  int depth(String method) {
    Integer known = depths.get(method);
    if (known != null) {
      return known;
    }
    int below = 0;
    for (String from : calls.keySet()) {
      if (areOneRecursion(from, method)) {
        for (String to : calls.get(from)) {
          if (calls.containsKey(to) && !areOneRecursion(to, method)) {
            below = Math.max(below, depth(to));
          }
        }
      }
    }
    depths.put(method, below + 1);
    return below + 1;
  }
}
