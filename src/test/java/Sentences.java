import java.lang.reflect.Method;
import java.util.ArrayList;
import java.util.HashMap;
import java.util.List;
import java.util.Map;

/**
 * Calls told as texts, "rule(0, 10)", on one yard after another, each due by words that must stand in the document; so
 * it can be seen which of the document's boundaries have no test.
 */
final class Sentences {
  static final int NONE = -1, BAD = -2, STATE = -3, FULL = -4, NOT = -5;
  static final int EMPTY = -11, OUTSIDE = -12, OTHER = -13, SIZE = -14;
  static final int MIN = Integer.MIN_VALUE, MAX = Integer.MAX_VALUE;

  private static final int SHOWN = 12;

  private final Due due;
  private final Document document;
  private final Map<String, Method> face = new HashMap<>();
  private final List<String> history = new ArrayList<>();
  private HoopYard yard;
  private String sentence = "";
  private int answers = 1;

  Sentences(Due due, Document document) {
    this.due = due;
    this.document = document;
    for (Method method : HoopYard.class.getMethods()) {
      face.put(method.getName(), method);
    }
    yard();
  }

  /** What follows is due by these words. */
  void says(String section, String words) {
    end();
    due.holds(section + " says '" + words + "'", document.quote(section, words));
    sentence = section + " '" + words + "': ";
    answers = 0;
  }

  /** No sentence goes untested. */
  void end() {
    due.holds(sentence + "it is tested", answers > 0);
  }

  /** A new yard on which the calls (with ; between) have been made; none of them may be refused. */
  void yard(String... calls) {
    yard = new HoopYard();
    history.clear();
    for (String call : calls) {
      does(call);
    }
  }

  void does(String calls) {
    for (String call : calls.split(";")) {
      due.holds(told(call) + " is not refused", make(call.trim()) >= 0);
    }
  }

  void is(String call, long want) {
    answers++;
    due.is(told(call), make(call), want);
  }

  /** The answers to a call with 0, 1, .. for its #. */
  void are(String call, long... want) {
    for (int k = 0; k < want.length; k++) {
      is(call.replace("#", Integer.toString(k)), want[k]);
    }
  }

  /** The answers to a call with each of the numbers for its #. */
  void each(String call, int[] numbers, long... want) {
    due.is(call + ": as many", numbers.length, want.length);
    for (int k = 0; k < numbers.length; k++) {
      is(call.replace("#", Integer.toString(numbers[k])), want[k]);
    }
  }

  /** The call answers so and changes nothing: a yard on which it was made looks like one on which it was not. */
  void changesNothing(String call, long want) {
    answers++;
    HoopYard with = again();
    due.is(told(call), call(with, call), want);
    due.holds(told(call) + " changes nothing", Look.at(with).equals(Look.at(again())));
  }

  void refused(String call, long want) {
    due.holds(told(call) + " is a refusal", want < 0);
    changesNothing(call, want);
  }

  /** A call with each of the numbers for its # is refused. */
  void refusedEach(String call, int[] numbers, long want) {
    for (int number : numbers) {
      refused(call.replace("#", Integer.toString(number)), want);
    }
  }

  void types(String text) {
    for (char letter : text.toCharArray()) {
      does("feed(" + (int) letter + ")");
    }
  }

  void reads(String text, long want) {
    types(text);
    is("read()", want);
  }

  /** The text is a FAULT: the tape is empty then, nothing else has changed. The tape has to be empty ahead of it. */
  void fault(String text, long want) {
    answers++;
    HoopYard with = again();
    for (int k = 0; k < text.length(); k++) {
      due.is(told("feed of '" + text + "'"), with.feed(text.charAt(k)), k + 1);
    }
    due.is(told("read() of '" + text + "'"), with.read(), want);
    due.is(told("told(7) behind read() of '" + text + "'"), with.told(7), 0);
    due.holds(told("read() of '" + text + "'") + " does nothing", Look.at(with).equals(Look.at(again())));
  }

  private HoopYard again() {
    HoopYard twin = new HoopYard();
    for (String call : history) {
      call(twin, call);
    }
    return twin;
  }

  private long make(String call) {
    history.add(call);
    return call(yard, call);
  }

  private String told(String call) {
    int hidden = Math.max(0, history.size() - SHOWN);
    return sentence + (hidden > 0 ? hidden + " calls .. " : "") + history.subList(hidden, history.size()) + " " + call;
  }

  private long call(HoopYard on, String call) {
    int open = call.indexOf('(');
    Method method = face.get(call.substring(0, open));
    String inside = call.substring(open + 1, call.length() - 1).trim();
    String[] told = inside.isEmpty() ? new String[0] : inside.split(",");
    Object[] given = new Object[told.length];
    for (int k = 0; k < told.length; k++) {
      long number = Long.parseLong(told[k].trim());
      boolean isLong = method.getParameterTypes()[k] == long.class;
      given[k] = isLong ? (Object) Long.valueOf(number) : (Object) Integer.valueOf(Math.toIntExact(number));
    }
    try {
      return ((Number) method.invoke(on, given)).longValue();
    } catch (ReflectiveOperationException thrown) {
      throw new IllegalStateException(told(call), thrown);
    }
  }
}
