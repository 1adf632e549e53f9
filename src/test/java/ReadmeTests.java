import java.io.IOException;
import java.lang.reflect.Method;
import java.lang.reflect.Modifier;
import java.net.URL;
import java.net.URLClassLoader;
import java.nio.file.Files;
import java.nio.file.Path;
import java.util.ArrayList;
import java.util.List;
import java.util.function.Supplier;
import java.util.regex.Matcher;
import java.util.regex.Pattern;
import java.util.stream.Stream;
import javax.tools.ToolProvider;

/** README.md: its examples answer what stands beside them, and it names each call and each test. */
public final class ReadmeTests {
  private static final Due due = new Due();

  private static final Pattern EXAMPLE = Pattern.compile("(?ms)^```java\n(.*?)^```$");
  private static final Pattern ANSWERED = Pattern.compile("(?:int (\\w+) = )?(.*); *// (-?\\d+): .*");

  public static void main(String[] args) throws IOException, ReflectiveOperationException {
    Path readme = Path.of(System.getProperty("readme", "README.md"));
    String text = Files.readString(readme);
    examples(text);
    namesCalls(text);
    namesTests(text, readme.toAbsolutePath().getParent().resolve("src/test/java"));
    due.end();
  }

  private static void examples(String text) throws IOException, ReflectiveOperationException {
    int many = 0;
    Matcher example = EXAMPLE.matcher(text);
    while (example.find()) {
      many++;
      example("Example" + many, example.group(1));
    }
    due.holds("it has examples", many > 0);
  }

  private static void example(String name, String code) throws IOException, ReflectiveOperationException {
    List<String> lines = new ArrayList<>();
    List<Integer> told = new ArrayList<>();
    StringBuilder body = new StringBuilder();
    for (String line : code.split("\n")) {
      Matcher answered = ANSWERED.matcher(line);
      if (answered.matches()) {
        lines.add(line);
        told.add(Integer.valueOf(answered.group(3)));
        String put = answered.group(1) == null ? "" : "int " + answered.group(1) + " = ";
        body.append(put).append("told(").append(answered.group(2)).append(");\n");
      } else {
        body.append(line).append('\n');
      }
    }
    List<Integer> got = answersOf(name, body.toString());
    due.is(name + " answers", got.size(), told.size());
    due.holds(name + " has answers", !told.isEmpty());
    for (int i = 0; i < Math.min(got.size(), told.size()); i++) {
      due.is("README.md: " + lines.get(i), got.get(i), told.get(i));
    }
  }

  /** Compiles and runs an example: what the calls with an answer beside them answered. */
  private static List<Integer> answersOf(String name, String body) throws IOException, ReflectiveOperationException {
    Path folder = Files.createTempDirectory("readme");
    try {
      Path source = folder.resolve(name + ".java");
      Files.writeString(source, "public final class " + name + " implements java.util.function.Supplier<java.util.List<Integer>> {\n"
          + "private final java.util.List<Integer> all = new java.util.ArrayList<>();\n"
          + "private int told(int answer) { all.add(answer); return answer; }\n"
          + "public java.util.List<Integer> get() {\n" + body + "return all;\n}\n}\n");
      String path = System.getProperty("java.class.path");
      int exit = ToolProvider.getSystemJavaCompiler().run(null, null, null, "-cp", path, "-d", folder.toString(), source.toString());
      due.is(name + " compiles", exit, 0);
      return exit == 0 ? run(folder, name) : List.of();
    } finally {
      remove(folder);
    }
  }

  @SuppressWarnings("unchecked")
  private static List<Integer> run(Path folder, String name) throws IOException, ReflectiveOperationException {
    try (URLClassLoader loader = new URLClassLoader(new URL[] {folder.toUri().toURL()})) {
      return ((Supplier<List<Integer>>) loader.loadClass(name).getDeclaredConstructor().newInstance()).get();
    }
  }

  private static void remove(Path folder) throws IOException {
    try (Stream<Path> files = Files.list(folder)) {
      for (Path file : files.toList()) {
        Files.delete(file);
      }
    }
    Files.delete(folder);
  }

  private static void namesCalls(String text) {
    for (Method method : TowField.class.getDeclaredMethods()) {
      if (Modifier.isPublic(method.getModifiers())) {
        due.holds("README.md names " + method.getName(), text.contains("`" + method.getName() + "`"));
      }
    }
  }

  private static void namesTests(String text, Path folder) throws IOException {
    try (Stream<Path> files = Files.list(folder)) {
      for (Path file : files.toList()) {
        String name = file.getFileName().toString();
        if (name.endsWith("Tests.java")) {
          due.holds("README.md tells of " + name, text.contains("| `" + name.replace(".java", "") + "` |"));
        }
      }
    }
  }
}
