import java.lang.reflect.Method;
import java.nio.file.Files;
import java.nio.file.Path;
import java.util.List;
import java.util.Set;
import java.util.TreeSet;
import java.util.regex.Matcher;
import java.util.regex.Pattern;

/** The rules of LANGUAGE.md that a look at the source can tell; run from the project's folder. */
public final class LanguageTest {
  private static final String[] FORBIDDEN = {
    "->", "::", "\\bcatch\\b", "\\btry\\b", "\\bfinally\\b", "\\bsynchronized\\b", "\\bassert\\b", "\\bnative\\b",
    "\\bvar\\b", "\\bdouble\\b", "\\bfloat\\b", "Exact\\b", "System\\.(?!arraycopy)", "\\bRandom\\b", "\\bThread\\b",
    "while \\(true\\)", "for \\(;;\\)", "\\bprotected\\b", "\\bpackage\\b", "\"\\s*\\+", "\\+\\s*\"", "\\bstatic \\{",
    "\\bObject\\b", "\\bMap\\b", "\\bSet\\b", "\\bequals\\b", "hashCode", "toString",
    // Rule 4 lists functions of these alone, none of their constants.
    "\\b(Integer|Long|Math|Short|Byte|Character)\\.[A-Z]",
  };
  /** What rule 4 lists, as far as the class calls it; all else that is called has to be its own. */
  private static final Set<String> LIBRARY = Set.of("Arrays.fill", "System.arraycopy", "Math.min", "Math.max",
      "Integer.bitCount", "Long.bitCount", ".charAt", ".length");
  private static final Set<String> NO_CALLS = Set.of("if", "for", "while", "switch", "return");

  public static void main(String[] args) throws Exception {
    Kit kit = new Kit();
    String source = Files.readString(Path.of("src/main/java/LullabyPit.java"));
    String code = source.replaceAll("(?s)/\\*.*?\\*/", "").replaceAll("//[^\n]*", "");
    for (String rule : FORBIDDEN) {
      Matcher m = Pattern.compile(rule).matcher(code);
      kit.yes("no " + rule, !m.find());
    }
    Matcher imports = Pattern.compile("import ([^;]+);").matcher(code);
    while (imports.find()) {
      kit.yes(imports.group(1) + " may be imported",
          List.of("java.util.Arrays", "java.util.NoSuchElementException").contains(imports.group(1)));
    }
    Matcher thrown = Pattern.compile("throw ([^;]+);").matcher(code);
    while (thrown.find()) {
      kit.yes(thrown.group(1) + " is thrown as rule 6 says", thrown.group(1)
          .matches("new (IllegalArgument|IndexOutOfBounds|NoSuchElement)Exception\\(\"[^\"]*\"\\)"));
    }
    for (int i = 0; i < source.length(); i++) {
      char c = source.charAt(i);
      if (c != '\n' && (c < 32 || c > 126)) {
        kit.yes("sign " + (int) c + " stands in the source", false);
      }
    }
    calls(kit, code);
    methods(kit, source.split("\n"));
    kit.end();
  }

  private static void calls(Kit kit, String code) {
    Set<String> own = new TreeSet<>(NO_CALLS);
    for (Class<?> c : LullabyPit.class.getDeclaredClasses()) {
      for (Method m : c.getDeclaredMethods()) {
        own.add(m.getName());
      }
    }
    for (Method m : LullabyPit.class.getDeclaredMethods()) {
      own.add(m.getName());
    }
    Matcher m = Pattern.compile("(\\b[A-Z]\\w*)?(\\.?)\\b([a-z]\\w*)\\(").matcher(code);
    while (m.find()) {
      String name = (m.group(1) == null ? "" : m.group(1)) + m.group(2) + m.group(3);
      kit.yes(name + " may be called", own.contains(m.group(3)) || LIBRARY.contains(name));
    }
  }

  /**
   * A method begins where a line ends with a brace behind a bracket, two or four blanks in, or where its row of
   * parameters has a line of its own.
   */
  private static void methods(Kit kit, String[] lines) {
    int from = -1;
    String own = "";
    for (int i = 0; i < lines.length; i++) {
      if (lines[i].matches("( {2}| {4})[^ /*][^=]*\\(.*") && !lines[i].endsWith(";")) {
        from = i;
        own = lines[i].replaceAll("\\(.*", "").replaceAll(".* ", "");
      } else if (from >= 0 && Pattern.compile("(?<![.\\w])" + own + "\\(").matcher(lines[i]).find()) {
        kit.yes(own + " calls itself: private and static", lines[from].contains("private static "));
      }
      if (lines[i].matches("( {2}| {4})\\}") && from >= 0) {
        kit.yes("a method from line " + (from + 1) + " on has some sixty lines at most", i - from < 62);
        from = -1;
      }
    }
  }
}
