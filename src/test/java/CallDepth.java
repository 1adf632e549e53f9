import java.io.IOException;
import java.io.PrintWriter;
import java.io.StringWriter;
import java.nio.file.Files;
import java.nio.file.Path;
import java.util.HashMap;
import java.util.HashSet;
import java.util.List;
import java.util.Map;
import java.util.Set;
import java.util.TreeSet;
import java.util.regex.Matcher;
import java.util.regex.Pattern;
import java.util.spi.ToolProvider;
import java.util.stream.Collectors;
import java.util.stream.Stream;

/** Which methods of the program call which, as its class files show it. */
final class CallDepth {
  private static final Pattern CLASS = Pattern.compile("(?:[\\w ]* )?class (TowField[\\w$]*) .*\\{");
  private static final Pattern METHOD = Pattern.compile("  (?:[\\w\\[\\]$.]+ )*?([\\w$.]+)\\(([^)]*)\\);");
  private static final Pattern CALL = Pattern.compile(".*invoke\\w+ .*// Method (?:(TowField[\\w$]*)\\.)?(?:\"<init>\"|(\\w+)):.*");

  private final Map<String, Set<String>> calls = new HashMap<>();
  private final Map<String, Set<String>> reached = new HashMap<>();
  private final Map<String, Integer> depths = new HashMap<>();

  CallDepth(Path classes) throws IOException {
    String owner = "";
    String method = "";
    for (String line : listing(classes).split("\n")) {
      Matcher of = CLASS.matcher(line);
      Matcher begins = METHOD.matcher(line);
      Matcher call = CALL.matcher(line);
      if (of.matches()) {
        owner = of.group(1);
      } else if (begins.matches()) {
        String name = begins.group(1);
        method = owner + "." + (name.equals(owner) ? "new" : name);
        calls.computeIfAbsent(method, any -> new TreeSet<>());
      } else if (call.matches()) {
        String called = call.group(1) == null ? owner : call.group(1);
        calls.get(method).add(called + "." + (call.group(2) == null ? "new" : call.group(2)));
      }
    }
    calls.keySet().forEach(from -> reached.put(from, reach(from)));
  }

  private static String listing(Path classes) throws IOException {
    List<String> arguments;
    try (Stream<Path> files = Files.list(classes)) {
      arguments = files.map(Path::toString).filter(f -> f.matches(".*[/\\\\]TowField(\\$\\w+)?\\.class")).sorted().collect(Collectors.toList());
    }
    arguments.add(0, "-p");
    arguments.add(0, "-c");
    StringWriter text = new StringWriter();
    PrintWriter out = new PrintWriter(text);
    ToolProvider.findFirst("javap").orElseThrow().run(out, out, arguments.toArray(new String[0]));
    out.flush();
    return text.toString();
  }

  private Set<String> reach(String from) {
    Set<String> all = new HashSet<>();
    List<String> open = new java.util.ArrayList<>(calls.get(from));
    while (!open.isEmpty()) {
      String one = open.remove(open.size() - 1);
      if (calls.containsKey(one) && all.add(one)) {
        open.addAll(calls.get(one));
      }
    }
    return all;
  }

  Set<String> methods() {
    return calls.keySet();
  }

  boolean isRecursive(String method) {
    return reached.get(method).contains(method);
  }

  private boolean areOneRecursion(String a, String b) {
    return reached.get(a).contains(b) && reached.get(b).contains(a);
  }

  /** How many methods stand open at once from this one on, where methods that call one another count as one. */
  int depth(String method) {
    Integer known = depths.get(method);
    if (known != null) {
      return known;
    }
    int below = 0;
    Set<String> all = new HashSet<>(reached.get(method));
    all.add(method);
    for (String from : all) {
      if (from.equals(method) || areOneRecursion(from, method)) {
        for (String to : calls.get(from)) {
          if (calls.containsKey(to) && !to.equals(method) && !areOneRecursion(to, method)) {
            below = Math.max(below, depth(to));
          }
        }
      }
    }
    depths.put(method, below + 1);
    return below + 1;
  }
}
