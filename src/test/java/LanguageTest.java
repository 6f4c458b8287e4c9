import java.nio.file.Files;
import java.nio.file.Path;
import java.util.List;
import java.util.regex.Matcher;
import java.util.regex.Pattern;

/** The rules of LANGUAGE.md that a look at the source can tell; run from the project's folder. */
public final class LanguageTest {
  private static final String[] FORBIDDEN = {
    "->", "::", "\\bcatch\\b", "\\btry\\b", "\\bfinally\\b", "\\bsynchronized\\b", "\\bassert\\b", "\\bnative\\b",
    "\\bvar\\b", "\\bdouble\\b", "\\bfloat\\b", "Exact\\b", "System\\.(?!arraycopy)", "\\bRandom\\b", "\\bThread\\b",
    "while \\(true\\)", "for \\(;;\\)", "\\bprotected\\b", "\\bpackage\\b", "\"\\s*\\+", "\\+\\s*\"", "\\bstatic \\{",
    "\\bObject\\b", "\\bMap\\b", "\\bSet\\b", "\\bequals\\b", "hashCode", "toString",
  };

  public static void main(String[] args) throws Exception {
    Kit kit = new Kit();
    String source = Files.readString(Path.of("src/main/java/LullabyPit.java"));
    String code = source.replaceAll("(?s)/\\*.*?\\*/", "").replaceAll("//[^\n]*", "");
    for (String rule : FORBIDDEN) {
      Matcher m = Pattern.compile(rule).matcher(code);
      kit.yes("no " + rule, !m.find());
    }
    Matcher imports = Pattern.compile("import ([^;]+);").matcher(code);
    while (imports.find()) {
      kit.yes(imports.group(1) + " may be imported",
          List.of("java.util.Arrays", "java.util.NoSuchElementException").contains(imports.group(1)));
    }
    Matcher thrown = Pattern.compile("throw ([^;]+);").matcher(code);
    while (thrown.find()) {
      kit.yes(thrown.group(1) + " is thrown as rule 6 says", thrown.group(1)
          .matches("new (IllegalArgument|IndexOutOfBounds|NoSuchElement)Exception\\(\"[^\"]*\"\\)"));
    }
    for (int i = 0; i < source.length(); i++) {
      char c = source.charAt(i);
      if (c != '\n' && (c < 32 || c > 126)) {
        kit.yes("sign " + (int) c + " stands in the source", false);
      }
    }
    methods(kit, source.split("\n"));
    kit.end();
  }

  /** A method begins where a line ends with a brace behind a bracket, two or four blanks in. */
  private static void methods(Kit kit, String[] lines) {
    int from = -1;
    for (int i = 0; i < lines.length; i++) {
      if (lines[i].matches("( {2}| {4})[^ /*].*\\{") && !lines[i].contains(" class ") && !lines[i].contains(" = ")) {
        from = i;
      }
      if (lines[i].matches("( {2}| {4})\\}") && from >= 0) {
        kit.yes("a method from line " + (from + 1) + " on has some sixty lines at most", i - from < 62);
        from = -1;
      }
    }
  }
}
