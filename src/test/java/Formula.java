import java.util.ArrayDeque;
import java.util.Deque;

/** Texts for the model: faults by an automaton over tokens, values by parting at the weakest sign. */
final class Formula {
  private Formula() {}

  private static final String NAMES = " height minutes kind wind ";

  /** The place of the fault, or -1. */
  static int fault(String t) {
    Deque<Character> open = new ArrayDeque<>();
    Deque<Boolean> outer = new ArrayDeque<>();
    boolean wantsOperand = true;
    boolean mayNegate = true;
    boolean compared = false;
    int i = 0;
    while (true) {
      while (i < t.length() && t.charAt(i) == ' ') {
        i++;
      }
      if (i == t.length()) {
        while (!open.isEmpty() && open.peek() == '!') {
          open.pop();
        }
        return wantsOperand || !open.isEmpty() ? i : -1;
      }
      String token = tokenAt(t, i);
      char c = token.charAt(0);
      if (wantsOperand) {
        if (isOperand(token)) {
          wantsOperand = false;
        } else if (c == '(' && open.size() < 6) {
          open.push('(');
          outer.push(compared);
          compared = false;
          mayNegate = true;
        } else if (c == '!' && mayNegate && open.size() < 6) {
          open.push('!');
        } else {
          return i;
        }
      } else if ("+-*/".indexOf(c) >= 0) {
        wantsOperand = true;
        mayNegate = false;
      } else if ("<=>".indexOf(c) >= 0 && !compared) {
        compared = true;
        wantsOperand = true;
        mayNegate = false;
      } else if ("|&)".indexOf(c) >= 0) {
        while (!open.isEmpty() && open.peek() == '!') {
          open.pop();
        }
        if (c == ')') {
          if (open.isEmpty()) {
            return i;
          }
          open.pop();
          compared = outer.pop();
        } else {
          compared = false;
          wantsOperand = true;
          mayNegate = true;
        }
      } else {
        return i;
      }
      i += token.length();
    }
  }

  private static String tokenAt(String t, int i) {
    String pattern = isLetter(t.charAt(i)) ? "a-z" : isDigit(t.charAt(i)) ? "0-9" : "";
    int end = i + 1;
    while (!pattern.isEmpty() && end < t.length() && t.substring(end, end + 1).matches("[" + pattern + "]")) {
      end++;
    }
    return t.substring(i, end);
  }

  private static boolean isOperand(String token) {
    if (isDigit(token.charAt(0))) {
      return token.length() <= 4;
    }
    return isLetter(token.charAt(0)) && NAMES.contains(" " + token + " ");
  }

  private static boolean isLetter(char c) {
    return c >= 'a' && c <= 'z';
  }

  private static boolean isDigit(char c) {
    return c >= '0' && c <= '9';
  }

  /** The value of a text without fault. */
  static int value(String text, int height, int minutes, int kind, int wind) {
    String t = text.strip();
    int at = last(t, "|");
    if (at < 0) {
      at = last(t, "&");
    }
    if (at < 0 && t.charAt(0) == '!') {
      return value(t.substring(1), height, minutes, kind, wind) == 0 ? 1 : 0;
    }
    String[] weaker = {"<=>", "+-", "*/"};
    for (int i = 0; at < 0 && i < weaker.length; i++) {
      at = last(t, weaker[i]);
    }
    if (at >= 0) {
      int a = value(t.substring(0, at), height, minutes, kind, wind);
      int b = value(t.substring(at + 1), height, minutes, kind, wind);
      return worked(t.charAt(at), a, b);
    }
    if (t.charAt(0) == '(') {
      return value(t.substring(1, t.length() - 1), height, minutes, kind, wind);
    }
    switch (t) {
      case "height":
        return height;
      case "minutes":
        return minutes;
      case "kind":
        return kind;
      case "wind":
        return wind;
      default:
        return Integer.parseInt(t);
    }
  }

  private static int worked(char sign, long a, long b) {
    switch (sign) {
      case '|':
        return a != 0 || b != 0 ? 1 : 0;
      case '&':
        return a * b != 0 ? 1 : 0;
      case '<':
        return a < b ? 1 : 0;
      case '>':
        return a > b ? 1 : 0;
      case '=':
        return a == b ? 1 : 0;
      case '+':
        return (int) (a + b);
      case '-':
        return (int) (a - b);
      case '*':
        return (int) (a * b);
      default:
        return b == 0 ? 0 : (int) (a / b);
    }
  }

  /** The last place, outside all brackets, of one of some signs; -1 if there is none. */
  private static int last(String t, String signs) {
    int depth = 0;
    for (int i = t.length() - 1; i >= 0; i--) {
      char c = t.charAt(i);
      depth += c == ')' ? 1 : c == '(' ? -1 : 0;
      if (depth == 0 && c != '(' && signs.indexOf(c) >= 0) {
        return i;
      }
    }
    return -1;
  }
}
