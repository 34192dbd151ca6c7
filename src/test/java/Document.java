import java.io.IOException;
import java.nio.file.Files;
import java.nio.file.Path;
import java.util.ArrayList;
import java.util.Arrays;
import java.util.LinkedHashMap;
import java.util.List;
import java.util.Map;
import java.util.regex.Matcher;
import java.util.regex.Pattern;

/** The document's text by sections, and which of its words have been quoted. */
final class Document {
  private static final Pattern MARK =
      Pattern.compile("==== (\\d)|## Promise (\\d+):|## (What it is|The public face|Terms|Not promised)");
  /** Words by which the document names a boundary: too small, too large, empty, full, a wrap-around, a refused call. */
  private static final Pattern BOUNDARY = Pattern.compile("at most|at least|at the farthest|at first|\\bcut\\b|\\d \\.\\. "
      + "|\\b(NONE|BAD|STATE|FULL|NOT|EMPTY|OUTSIDE|OTHER|NO|empty|too|nothing|nobody|lowest|without|above|below"
      + "|beyond|none|lesser|earlier|least|first|fewest|fewer)\\b"
      + "|SIZE \\(-14\\)|SIZE: n|of several|of two|of like|less than|no more|no farther");

  private final Map<String, String> texts = new LinkedHashMap<>();
  private final Map<String, boolean[]> quoted = new LinkedHashMap<>();

  Document(Path file) throws IOException {
    String all = Files.readString(file).replaceAll("```(text|java)?", " ").replaceAll("\\s+", " ");
    Matcher mark = MARK.matcher(all);
    String name = null;
    int begin = 0;
    while (mark.find()) {
      keep(name, all.substring(begin, mark.start()));
      name = mark.group(1) != null ? "Terms " + mark.group(1)
          : mark.group(2) != null ? "Promise " + mark.group(2) : mark.group(3);
      begin = mark.end();
    }
    keep(name, all.substring(begin));
  }

  private void keep(String name, String text) {
    if (name != null) {
      texts.put(name, text);
      quoted.put(name, new boolean[text.length()]);
      // a promise's head, up to its method's face, tells no boundary
      Arrays.fill(quoted.get(name), 0, name.startsWith("Promise") ? text.indexOf("`: ") : 0, true);
    }
  }

  /** Whether the words stand in the section; what is quoted is kept in mind. */
  boolean quote(String section, String words) {
    int place = texts.containsKey(section) ? texts.get(section).indexOf(words) : -1;
    for (int k = 0; place >= 0 && k < words.length(); k++) {
      quoted.get(section)[place + k] = true;
    }
    return place >= 0;
  }

  /** The boundaries of the terms and the promises that nobody has quoted. */
  List<String> unquoted() {
    List<String> left = new ArrayList<>();
    for (String section : texts.keySet()) {
      if (section.matches("(Terms|Promise) \\d+")) {
        Matcher found = BOUNDARY.matcher(texts.get(section));
        while (found.find()) {
          if (!quoted.get(section)[found.start()]) {
            left.add(section + ": .." + around(texts.get(section), found.start(), found.end()) + "..");
          }
        }
      }
    }
    return left;
  }

  /** The terms and promises of which nobody has quoted a word. */
  List<String> untouched() {
    List<String> left = new ArrayList<>();
    for (String section : texts.keySet()) {
      boolean[] marks = quoted.get(section);
      int first = section.startsWith("Promise") ? texts.get(section).indexOf("`: ") : 0;
      boolean isTouched = false;
      for (int k = first; k < marks.length; k++) {
        isTouched |= marks[k];
      }
      if (section.matches("(Terms|Promise) \\d+") && !isTouched) {
        left.add(section);
      }
    }
    return left;
  }

  int promises() {
    return (int) texts.keySet().stream().filter(section -> section.startsWith("Promise")).count();
  }

  private static String around(String text, int begin, int end) {
    return text.substring(Math.max(0, begin - 30), Math.min(text.length(), end + 30));
  }
}
