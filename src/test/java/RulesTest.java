import java.io.IOException;
import java.nio.file.Files;
import java.nio.file.Path;
import java.util.List;
import java.util.regex.Matcher;
import java.util.regex.Pattern;

/** What can be seen of LANGUAGE.md from the lines of the class alone; FaceTest looks at the face and the fields. */
public final class RulesTest {
  private static final Check check = new Check("RulesTest");
  private static final String[] FORBIDDEN = {"->", "::", "Exact(", "finally", "synchronized", "assert ", "Optional", "var ",
      "System.out", "System.nano", "System.current", "System.exit", "Thread", "Random", "Arrays.sort", "Collections", "HashMap",
      "String.valueOf", "String.format", "getMessage", "printStackTrace", ".getClass", "hashCode"};
  private static final Pattern CAUGHT = Pattern.compile("catch \\((\\w+)");
  private static final Pattern THROWN = Pattern.compile("throw new (\\w+)\\((\"[^\"]*\")?\\);");
  private static final Pattern STATIC = Pattern.compile("^ +(private )?(final )?static (?!final |void |int \\w+\\(|boolean \\w+\\()");
  private static final Pattern METHOD = Pattern.compile("^( +)(?:public |private |static )*(?:int|long|boolean|void|int\\[\\]|Body) \\w+\\(.*\\{$");

  public static void main(String[] args) throws IOException {
    String path = args.length > 0 ? args[0] : "src/main/java/TentPlain.java";
    List<String> lines = Files.readAllLines(Path.of(path));
    for (int i = 0; i < lines.size(); i++) look(i + 1, lines.get(i));
    methodsAreShort(lines);
    check.due("no package line", lines.get(0).startsWith("package") ? 1 : 0, 0);
    check.end();
  }

  private static void look(int number, String line) {
    String code = line.replaceAll("//.*", "").replaceAll("^\\s*/?\\*.*", "");
    for (String word : FORBIDDEN) check.due("line " + number + " has " + word, code.contains(word) ? 1 : 0, 0);
    Matcher caught = CAUGHT.matcher(code);
    if (caught.find()) {
      boolean own = List.of("UnsupportedOperationException", "IllegalStateException", "IllegalArgumentException", "NoSuchElementException").contains(caught.group(1));
      check.due("line " + number + " catches " + caught.group(1), own ? 1 : 0, 1);
    }
    if (code.contains("throw ")) check.due("line " + number + " throws by a written text", THROWN.matcher(code).find() ? 1 : 0, 1);
    check.due("line " + number + " has state that is static", STATIC.matcher(code).find() && !code.contains("class ") ? 1 : 0, 0);
    for (int i = 0; i < line.length(); i++) check.due("line " + number + " sign", line.charAt(i) < 127 ? 1 : 0, 1);
  }

  private static void methodsAreShort(List<String> lines) {
    int methods = 0;
    for (int i = 0; i < lines.size(); i++) {
      Matcher m = METHOD.matcher(lines.get(i));
      if (!m.find()) continue;
      methods++;
      int end = i;
      while (end < lines.size() && !lines.get(end).equals(m.group(1) + "}")) end++;
      check.due("method at line " + (i + 1) + " has some sixty lines at most", end - i < 66 ? 1 : 0, 1);
    }
    check.due("methods were seen", methods > 40 ? 1 : 0, 1);
  }
}
