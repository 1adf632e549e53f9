import java.util.Random;

/** Writes texts by the document's grammar, by a seed, and spoils some of them. */
final class Writer {
  private static final String[] NAMES = {"height", "minutes", "kind", "wind"};
  private static final String[] STRAY = {"(", ")", "!", "|", "&", "<", "=", ">", "+", "-", "*", "/", "1", "12345", "kind", "winds", "a", "$", "\t", " ", "00"};

  private Writer() {}

  static String text(Random random, int soundness) {
    String text = either(random, 0);
    for (int i = 0; i < 20 && text.length() > 100; i++) {
      text = either(random, 3);
    }
    if (random.nextInt(soundness) == 0) {
      int at = random.nextInt(text.length() + 1);
      int end = Math.min(text.length(), at + random.nextInt(4));
      text = text.substring(0, at) + STRAY[random.nextInt(STRAY.length)] + text.substring(end);
    }
    return text.length() > 100 ? text.substring(0, 100) : text;
  }

  private static String blank(Random random) {
    return random.nextInt(5) == 0 ? " ".repeat(random.nextInt(3)) : "";
  }

  private static String either(Random random, int depth) {
    StringBuilder out = new StringBuilder(both(random, depth));
    while (random.nextInt(4) == 0) {
      out.append('|').append(both(random, depth));
    }
    return out.toString();
  }

  private static String both(Random random, int depth) {
    StringBuilder out = new StringBuilder(not(random, depth));
    while (random.nextInt(4) == 0) {
      out.append('&').append(not(random, depth));
    }
    return out.toString();
  }

  private static String not(Random random, int depth) {
    if (random.nextInt(5) < 2 && depth < 8) {
      return blank(random) + "!" + blank(random) + not(random, depth + 1);
    }
    String first = sum(random, depth);
    return random.nextInt(3) == 0 ? first + "<=>".charAt(random.nextInt(3)) + sum(random, depth) : first;
  }

  private static String sum(Random random, int depth) {
    StringBuilder out = new StringBuilder(product(random, depth));
    while (random.nextInt(4) == 0) {
      out.append("+-".charAt(random.nextInt(2))).append(product(random, depth));
    }
    return out.toString();
  }

  private static String product(Random random, int depth) {
    StringBuilder out = new StringBuilder(single(random, depth));
    while (random.nextInt(4) == 0) {
      out.append("*/".charAt(random.nextInt(2))).append(single(random, depth));
    }
    return out.toString();
  }

  private static String single(Random random, int depth) {
    int dice = random.nextInt(7);
    if (dice < 3 && depth < 8) {
      return blank(random) + "(" + either(random, depth + 1) + ")" + blank(random);
    }
    if (dice < 5) {
      return blank(random) + NAMES[random.nextInt(4)] + blank(random);
    }
    int most = new int[] {2, 10, 10000}[random.nextInt(3)];
    return blank(random) + random.nextInt(most) + blank(random);
  }
}
