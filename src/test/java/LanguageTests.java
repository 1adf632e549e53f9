import java.io.IOException;
import java.lang.reflect.Constructor;
import java.lang.reflect.Field;
import java.lang.reflect.Method;
import java.lang.reflect.Modifier;
import java.nio.file.Files;
import java.nio.file.Path;
import java.util.Set;
import java.util.TreeSet;
import java.util.regex.Matcher;
import java.util.regex.Pattern;

/** The face of the document, and the rules of LANGUAGE.md that a source or a class shows. */
public final class LanguageTests {
  private static final Due due = new Due();

  public static void main(String[] args) throws IOException {
    Path program = Path.of(System.getProperty("program", "src/main/java/TowField.java"));
    Path document = Path.of(System.getProperty("shared", "../shared")).resolve("DOC.md");
    String source = Files.readString(program);
    face(Files.readString(document));
    outerMembers();
    for (Class<?> inner : TowField.class.getDeclaredClasses()) {
      innerClass(inner);
    }
    due.holds("some twelve classes", TowField.class.getDeclaredClasses().length <= 11);
    words(withoutComments(source));
    shortMethods(source);
    callDepth(program);
    noCallMakesAnObject();
    due.end();
  }

  private static void face(String document) {
    Set<String> asked = new TreeSet<>();
    String block = document.substring(document.indexOf("```java"), document.indexOf("## Terms"));
    Matcher lines = Pattern.compile("public int (\\w+)\\(([^)]*)\\);").matcher(block);
    while (lines.find()) {
      asked.add(lines.group(1) + "(" + lines.group(2).replaceAll(" \\w+(,|$)", "$1").replace(" ", "") + ")");
    }
    Set<String> there = new TreeSet<>();
    for (Method method : TowField.class.getDeclaredMethods()) {
      if (Modifier.isPublic(method.getModifiers())) {
        StringBuilder name = new StringBuilder(method.getName()).append('(');
        for (Class<?> type : method.getParameterTypes()) {
          name.append(name.charAt(name.length() - 1) == '(' ? "" : ",").append(type.getName());
        }
        there.add(name.append(')').toString());
        due.holds(method.getName() + " answers an int", method.getReturnType() == int.class);
      }
    }
    due.is("methods of the face", there.size(), 43);
    due.holds("the face is as asked: " + there + " for " + asked, there.equals(asked));
  }

  private static void outerMembers() {
    due.holds("public and final", Modifier.isPublic(TowField.class.getModifiers()) && Modifier.isFinal(TowField.class.getModifiers()));
    Constructor<?>[] constructors = TowField.class.getDeclaredConstructors();
    due.is("one constructor", constructors.length, 1);
    due.holds("it is public", Modifier.isPublic(constructors[0].getModifiers()));
    for (Field field : TowField.class.getDeclaredFields()) {
      due.holds(field + " is private", Modifier.isPrivate(field.getModifiers()));
    }
    for (Method method : TowField.class.getDeclaredMethods()) {
      int is = method.getModifiers();
      due.holds(method + " is private or of the face", Modifier.isPrivate(is) || Modifier.isPublic(is));
    }
    fields(TowField.class);
    parameters(TowField.class);
    privateNames(TowField.class);
  }

  private static void innerClass(Class<?> inner) {
    int is = inner.getModifiers();
    due.holds(inner + " is static", Modifier.isStatic(is));
    due.holds(inner + " is not public", !Modifier.isPublic(is) && !Modifier.isProtected(is));
    fields(inner);
    parameters(inner);
    privateNames(inner);
  }

  private static void fields(Class<?> of) {
    int many = 0;
    for (Field field : of.getDeclaredFields()) {
      if (Modifier.isStatic(field.getModifiers())) {
        due.holds(field + " is final", Modifier.isFinal(field.getModifiers()));
      } else {
        many++;
      }
    }
    due.holds(of + " has some twenty fields at most", many <= 20);
  }

  private static void parameters(Class<?> of) {
    for (Method method : of.getDeclaredMethods()) {
      due.holds(method + " takes seven at most", method.getParameterCount() <= 7);
    }
  }

  private static void privateNames(Class<?> of) {
    Set<String> face = new TreeSet<>();
    for (Method method : TowField.class.getDeclaredMethods()) {
      if (Modifier.isPublic(method.getModifiers())) {
        face.add(method.getName());
      }
    }
    for (Method method : of.getDeclaredMethods()) {
      boolean isFace = of == TowField.class && Modifier.isPublic(method.getModifiers());
      due.holds(method + " bears no name of the face", isFace || !face.contains(method.getName()));
    }
  }

  private static String withoutComments(String source) {
    return source.replaceAll("(?s)/\\*.*?\\*/", "").replaceAll("//[^\n]*", "");
  }

  private static void words(String code) {
    String[] barred = {
      "throw", "throws", "try", "catch", "finally", "synchronized", "assert", "import", "package", "native", "volatile",
      "Object", "Exception", "System\\.out", "Thread", "hashCode", "toString", "float", "double", "null",
    };
    for (String word : barred) {
      due.holds("no " + word, !Pattern.compile("\\b" + word + "\\b").matcher(code).find());
    }
    due.holds("no lambda", !code.contains("->"));
    due.holds("no method reference", !code.contains("::"));
    due.holds("no annotation", !code.contains("@"));
    for (int i = 0; i < code.length(); i++) {
      if (code.charAt(i) > 126) {
        due.holds("only plain signs", false);
      }
    }
    Matcher library = Pattern.compile("\\b(System|Math|Integer|Long|Arrays|String|StringBuilder)\\.(\\w+)").matcher(code);
    while (library.find()) {
      String call = library.group(1) + "." + library.group(2);
      due.holds(call + " is of the library", Set.of("System.arraycopy", "Math.max", "Math.min", "Integer.bitCount").contains(call));
    }
  }

  private static void shortMethods(String source) {
    String[] lines = source.split("\n");
    int start = -1;
    for (int i = 0; i < lines.length; i++) {
      if (lines[i].matches(" {2,4}\\S.*\\) \\{")) {
        start = i;
      } else if (lines[i].matches(" {2,4}\\}") && start >= 0) {
        due.holds("short enough: " + lines[start].trim(), i - start < 60);
        start = -1;
      }
    }
  }

  private static void callDepth(Path program) throws IOException {
    CallDepth calls = new CallDepth(program);
    for (Method method : TowField.class.getDeclaredMethods()) {
      String name = "TowField." + method.getName();
      due.holds(name + " is among the source's methods", calls.methods().contains(name));
      due.holds(name + " goes eight deep at most, not " + calls.depth(name), calls.depth(name) <= 8);
    }
    due.holds("calls of other classes' methods are seen", calls.depth("TowField.run") > 4);
    for (String name : calls.methods()) {
      boolean isReader = name.startsWith("TowField.Tape.read");
      due.holds(name + " calls itself only if it reads a text's parts", isReader || !calls.isRecursive(name));
    }
  }

  /** All rows are made with the object, so that the calls of a run take no room. */
  private static void noCallMakesAnObject() {
    com.sun.management.ThreadMXBean beans = (com.sun.management.ThreadMXBean) java.lang.management.ManagementFactory.getThreadMXBean();
    allCalls(new TowField());
    TowField x = new TowField();
    long before = beans.getCurrentThreadAllocatedBytes();
    allCalls(x);
    long made = beans.getCurrentThreadAllocatedBytes() - before;
    due.holds("the calls made " + made + " bytes", made < 20000);
  }

  private static void allCalls(TowField x) {
    for (int i = 0; i < 200; i++) {
      int n = i % 5;
      x.person(60 + n, 126);
      x.glider(1 + i % 2, 200, n, 1);
      x.winch();
      x.plane();
      x.ask(n, -1, n, 10 * (1 + n) + 1 + n, 1 + n);
      x.feed('1' << 8 | '+', 2);
      x.feed('1', 1);
      x.text(i % 2);
      x.image();
      x.run(3);
      x.ahead(50, n);
      x.late(x.count(10) + 20);
      x.sheet(n, 8, 20);
      x.write(n, 3, 1);
      x.copy(n, 0, n, 1, 3);
      x.check(n);
      x.next();
      x.why(n);
      x.share(n, 100);
      x.pay(n, 1);
      x.undo();
    }
  }
}
