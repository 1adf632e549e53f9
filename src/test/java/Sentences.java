import java.util.LinkedHashMap;
import java.util.Map;
import java.util.regex.Matcher;
import java.util.regex.Pattern;

/**
 * The document, sentence by sentence: a test names the sentence that it holds to, as the document has it, and at the end no
 * part of the document may be left that no test has named.
 *
 * Sections are t0 (what stands ahead of the numbered terms), t1 to t7 (these) and p1 to p44 (the promises).
 */
final class Sentences {
  interface Test {
    void hold(Due due);
  }

  private static final Pattern TERM = Pattern.compile("(?m)^(\\d)\\. ");
  private static final Pattern PROMISE = Pattern.compile("(?ms)^## Promise (\\d+): [^\n]*\n(.*?)(?=^## )");

  private final Due due;
  private final Map<String, String> texts = new LinkedHashMap<>();
  private final Map<String, boolean[]> named = new LinkedHashMap<>();

  Sentences(String document, Due due) {
    this.due = due;
    int terms = document.indexOf("## Terms") + "## Terms".length();
    splitTerms(document.substring(terms, document.indexOf("## Promise 1:")));
    Matcher promise = PROMISE.matcher(document);
    while (promise.find()) {
      // The face (between the first two `) is a matter of LanguageTests.
      put("p" + promise.group(1), promise.group(2).replaceFirst("(?s)`[^`]*`:", ""));
    }
  }

  private void splitTerms(String terms) {
    // "Ahead of the calls .. the interface says .." are headings of the face.
    String text = terms.replaceAll("(?m)^Ahead of the calls .*$", "").replaceAll("(?m)^```.*$", "");
    Matcher number = TERM.matcher(text);
    int from = 0;
    String section = "t0";
    while (number.find()) {
      put(section, text.substring(from, number.start()));
      section = "t" + number.group(1);
      from = number.end();
    }
    put(section, text.substring(from));
  }

  private void put(String section, String text) {
    String plain = text.replaceAll("\\s+", " ").trim();
    texts.put(section, plain);
    named.put(section, new boolean[plain.length()]);
  }

  /** A section says a sentence, and this is its test. */
  void says(String section, String sentence, Test test) {
    due.about(section + " \"" + sentence + "\": ");
    mark(section, sentence);
    int before = due.asked();
    test.hold(due);
    due.holds("it has a test", due.asked() > before + 1);
    due.about("");
  }

  private void mark(String section, String sentence) {
    String text = texts.getOrDefault(section, "");
    int at = text.indexOf(sentence);
    due.holds("the document says it", at >= 0);
    while (at >= 0) {
      for (int i = at; i < at + sentence.length(); i++) {
        named.get(section)[i] = true;
      }
      at = text.indexOf(sentence, at + 1);
    }
  }

  void areAllNamed() {
    due.is("sections", texts.size(), 8 + 44);
    for (Map.Entry<String, String> section : texts.entrySet()) {
      StringBuilder left = new StringBuilder();
      for (int i = 0; i < section.getValue().length(); i++) {
        if (!named.get(section.getKey())[i] && section.getValue().charAt(i) != ' ') {
          left.append(section.getValue().charAt(i));
        }
      }
      due.holds(section.getKey() + " has parts without a test: " + left, left.length() == 0);
    }
  }
}
