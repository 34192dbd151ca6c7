import java.io.IOException;
import java.nio.file.Files;
import java.nio.file.Path;
import java.util.List;
import java.util.regex.Matcher;
import java.util.regex.Pattern;

/** What of LANGUAGE.md can be seen in the text of HoopYard.java (FaceTest sees to the rest). */
public final class LanguageTest {
  private static final String[] FORBIDDEN = {
    "\\b(throw|throws|try|catch|finally|synchronized|assert|native|volatile|transient|goto|yield|sealed|var)\\b",
    "->", "::", "\\bpackage\\b", "\\b(Object|Integer\\.valueOf|Random|Thread|Class|Scanner|Optional|Stream)\\b",
    "\\b(equals|hashCode|toString|values|valueOf)\\b", "\\w+Exact\\b", "\"", "static \\{", "\\bNaN\\b",
    "\\bSystem\\.(?!arraycopy\\()", "\\bArrays\\.(?!fill\\(|copyOf\\(|copyOfRange\\()", "\\?>", "@"
  };
  private static final int MOST_LINES = 60;

  public static void main(String[] args) throws IOException {
    Due due = new Due("LanguageTest");
    String text = Files.readString(Path.of("src/main/java/HoopYard.java"));
    due.holds("its signs are 1 to 127", text.chars().allMatch(c -> c > 0 && c < 128));
    String code = text.replaceAll("(?s)/\\*.*?\\*/", "").replaceAll("//[^\n]*", "");
    for (String forbidden : FORBIDDEN) {
      Matcher matcher = Pattern.compile(forbidden).matcher(code);
      due.holds("no " + forbidden, !matcher.find());
    }
    Matcher imports = Pattern.compile("import ([\\w.]+);").matcher(code);
    while (imports.find()) {
      due.holds("import " + imports.group(1), List.of("java.util.Arrays").contains(imports.group(1)));
    }
    methodLengths(due, code.split("\n"));
    due.end();
  }

  private static void methodLengths(Due due, String[] lines) {
    Pattern head = Pattern.compile("^( {2}| {4})(?! )[^=;]*\\(.*\\) \\{$");
    for (int k = 0; k < lines.length; k++) {
      Matcher matcher = head.matcher(lines[k]);
      if (matcher.find()) {
        int end = k;
        while (end < lines.length && !lines[end].equals(matcher.group(1) + "}")) {
          end++;
        }
        due.holds("some sixty lines at most: " + lines[k].trim(), end - k < MOST_LINES);
      }
    }
  }
}
