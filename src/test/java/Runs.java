import java.lang.reflect.InvocationTargetException;
import java.lang.reflect.Method;
import java.util.ArrayList;
import java.util.HashMap;
import java.util.List;
import java.util.Map;
import java.util.regex.Matcher;
import java.util.regex.Pattern;

/**
 * Plays runs of calls on new objects, one run for a sentence of the document.
 *
 * <p>The calls are written as a fault's tale has them: {@code cell(0, 0, 0) = 0} is due to answer 0, and
 * {@code cell(4, 0, 0) ! -1} is due to be refused by -1, so that behind the run all that can be asked is answered as
 * if the call had not been made. A call without an answer is made alone; {@code * 3} behind it makes it three times.
 * For short: {@code pass(n)} lets n minutes go by, {@code write(d, "text")} puts a text's bytes on shelf d,
 * {@code tell("text")} tells it by way of shelf 7, {@code bytes}, {@code shorts} and {@code ints(d, v, ..)} put a row.
 */
final class Runs {
  private static final int MOST_CALLS = 512;
  private static final Pattern CALL =
      Pattern.compile("\\s*(\\w+)\\(((?:[^()\"]|\"[^\"]*\")*)\\)\\s*(?:\\*\\s*(\\d+))?\\s*(?:([=!])\\s*(-?\\d+|throws\\.\\w+))?");
  private static final Map<String, Method> FACE = new HashMap<>();

  static {
    for (Method m : TentPlain.class.getDeclaredMethods()) {
      if (java.lang.reflect.Modifier.isPublic(m.getModifiers())) FACE.put(m.getName(), m);
    }
  }

  private static final class Call {
    final String name;
    final Object[] args;
    boolean refused = false;
    String due = null;

    Call(String name, int... args) {
      this.name = name;
      this.args = new Object[args.length];
      for (int i = 0; i < args.length; i++) this.args[i] = args[i];
    }

    @Override public String toString() {
      StringBuilder text = new StringBuilder(name).append('(');
      for (int i = 0; i < args.length; i++) text.append(i > 0 ? ", " : "").append(args[i]);
      return text.append(')').toString();
    }
  }

  private final String test;
  private int sentences = 0;
  private int wrong = 0;

  Runs(String test) {
    this.test = test;
  }

  /** Every row of calls, one behind the other, on one new object. */
  void run(String sentence, String... rows) {
    sentences++;
    List<Call> calls = new ArrayList<>();
    for (String row : rows) read(row, calls);
    TentPlain x = new TentPlain();
    boolean anyRefused = false;
    for (Call c : calls) {
      String answer = ask(x, c);
      if (c.due != null && !c.due.equals(answer)) tell(sentence, c + " answered " + answer + ", due is " + c.due);
      if (c.due == null && answer.startsWith("throws.")) tell(sentence, c + " " + answer);
      anyRefused |= c.refused;
    }
    if (calls.size() > MOST_CALLS) tell(sentence, "has " + calls.size() + " calls");
    if (anyRefused) leavesAllAsItWas(sentence, calls);
  }

  /** The same sentence of each number: "#" in its rows stands for it. */
  void runEach(String sentence, int[] numbers, String... rows) {
    for (int n : numbers) {
      String[] its = new String[rows.length];
      for (int i = 0; i < rows.length; i++) its[i] = rows[i].replace("#", String.valueOf(n));
      run(sentence + " (" + n + ")", its);
    }
  }

  void end() {
    System.out.println(test + ": " + sentences + " sentences, " + wrong + " answers not as due");
    if (sentences == 0 || wrong != 0) System.exit(1);
  }

  private void tell(String sentence, String what) {
    wrong++;
    if (wrong <= 40) System.out.println(test + ": " + sentence + ": " + what);
  }

  private static void read(String row, List<Call> calls) {
    Matcher m = CALL.matcher(row);
    int at = 0;
    while (at < row.length() && !row.substring(at).isBlank()) {
      if (!m.find(at) || m.start() != at) throw new IllegalArgumentException("no call at " + at + " of: " + row);
      int times = m.group(3) == null ? 1 : Integer.parseInt(m.group(3));
      for (int i = 0; i < times; i++) {
        expand(m.group(1), m.group(2), calls);
        Call last = calls.get(calls.size() - 1);
        last.refused = "!".equals(m.group(4));
        last.due = m.group(5);
      }
      at = m.end();
    }
  }

  private static void expand(String name, String args, List<Call> calls) {
    if (name.equals("write") || name.equals("tell")) {
      String text = args.substring(args.indexOf('"') + 1, args.lastIndexOf('"'));
      int d = name.equals("tell") ? 7 : Integer.parseInt(args.substring(0, args.indexOf(',')).trim());
      calls.add(new Call("row", d, 0, text.length()));
      for (int i = 0; i < text.length(); i++) calls.add(new Call("put", d, i, text.charAt(i)));
      if (name.equals("tell")) calls.add(new Call("text", d));
      return;
    }
    String[] parts = args.isBlank() ? new String[0] : args.split(",");
    int[] n = new int[parts.length];
    for (int i = 0; i < n.length; i++) n[i] = Integer.parseInt(parts[i].trim());
    int sort = List.of("bytes", "shorts", "ints").indexOf(name);
    if (name.equals("pass")) {
      for (int left = n[0]; left > 0; left -= 120) calls.add(new Call("go", Math.min(left, 120)));
    } else if (sort >= 0) {
      calls.add(new Call("row", n[0], sort, n.length - 1));
      for (int i = 1; i < n.length; i++) calls.add(new Call("put", n[0], i - 1, n[i]));
    } else {
      calls.add(new Call(name, n));
    }
  }

  private static String ask(TentPlain x, Call c) {
    Method m = FACE.get(c.name);
    if (m == null) throw new IllegalArgumentException("no such call: " + c);
    try {
      return String.valueOf(((Number) m.invoke(x, c.args)).longValue());
    } catch (InvocationTargetException e) {
      return "throws." + e.getCause().getClass().getSimpleName();
    } catch (IllegalAccessException e) {
      throw new IllegalStateException(e);
    }
  }

  private static TentPlain played(List<Call> calls, boolean refusedToo) {
    TentPlain x = new TentPlain();
    for (Call c : calls) {
      if (refusedToo || !c.refused) ask(x, c);
    }
    return x;
  }

  private void leavesAllAsItWas(String sentence, List<Call> calls) {
    TentPlain told = played(calls, false);
    List<Call> questions = questions(told);
    int most = Math.min(200, MOST_CALLS - calls.size());
    if (most < 20) {
      tell(sentence, "has no room for questions");
      return;
    }
    for (int at = 0; at < questions.size(); at += most) {
      compare(sentence, calls, questions.subList(at, Math.min(at + most, questions.size())));
    }
    List<Call> changes = changes(told);
    if (changes.size() > MOST_CALLS - calls.size()) changes = changes.subList(0, MOST_CALLS - calls.size());
    compare(sentence, calls, changes);
  }

  private void compare(String sentence, List<Call> calls, List<Call> asked) {
    TentPlain with = played(calls, true);
    TentPlain without = played(calls, false);
    for (Call c : asked) {
      String due = ask(without, c);
      String answer = ask(with, c);
      if (due.startsWith("throws.") && !c.name.equals("element")) tell(sentence, c + " " + due);
      if (!due.equals(answer)) {
        tell(sentence, "behind what was refused " + c + " answers " + answer + ", ahead of it " + due);
        return;
      }
    }
  }

  /** All that can be asked without a change. */
  private static List<Call> questions(TentPlain x) {
    List<Call> asked = new ArrayList<>();
    int cells = x.count(0);
    int ways = x.count(1);
    int bodies = x.count(2);
    int now = x.count(4);
    for (int what = 0; what <= 12; what++) asked.add(new Call("count", what));
    for (int w = 0; w < ways; w++) {
      for (int what = 0; what <= 8; what++) asked.add(new Call("about", w, what));
    }
    for (int a = 0; a < cells; a++) {
      for (int b = 0; b < cells; b++) asked.add(new Call("far", a, b));
    }
    for (int b = 0; b < bodies; b++) {
      for (int what = 0; what <= 13; what++) asked.add(new Call("body", b, what));
      askOfBody(asked, x.body(b, 0), b, bodies, now);
    }
    for (int t = 0; t <= x.count(5); t++) {
      for (int w = -1; w < Math.min(2, ways); w++) asked.add(new Call("holds", t, w, -1));
      asked.add(new Call("holds", t, -1, 0));
    }
    for (int minute = Math.max(0, now - 3); minute <= now; minute++) {
      for (int what = 0; what <= 4; what++) asked.add(new Call("record", minute, what));
      asked.add(new Call("pushed", minute, 0));
    }
    asked.add(new Call("pushed", 0, 1));
    for (int c = 0; c < cells; c++) asked.add(new Call("wave", c, 2));
    for (int k = 1; k <= 5; k++) {
      asked.add(new Call("round", k, 100));
      for (int i = 0; i < k; i++) asked.add(new Call("slot", k, 300, i));
    }
    asked.add(new Call("worst", -1, 0, 3));
    asked.add(new Call("best", 2));
    askOfShelves(asked, cells);
    return asked;
  }

  private static void askOfBody(List<Call> asked, int kind, int b, int bodies, int now) {
    if (kind == 0) {
      for (int rite = 0; rite < 2; rite++) asked.add(new Call("schools", b, rite));
      for (int minute = Math.max(0, now - 3); minute <= now; minute++) asked.add(new Call("was", b, minute));
      asked.add(new Call("rides", b, 1));
    }
    if (kind == 1) {
      asked.add(new Call("whose", b));
      asked.add(new Call("sure", b));
      for (int g = 0; g < Math.min(4, bodies); g++) asked.add(new Call("bring", b, g));
    }
  }

  private static void askOfShelves(List<Call> asked, int cells) {
    for (int d = 0; d < 8; d++) {
      asked.add(new Call("fault", d));
      asked.add(new Call("wrong", d));
      if (cells > 0) asked.add(new Call("closes", d, 0));
      asked.add(new Call("judge", d, 100));
      asked.add(new Call("weight", d));
      asked.add(new Call("toss", d));
      for (int i = 0; i <= 80; i = i < 6 || i >= 77 ? i + 1 : i + 13) asked.add(new Call("element", d, i));
    }
  }

  /** Changes that tell by their answers, or by those behind them, what no question tells. */
  private static List<Call> changes(TentPlain x) {
    List<Call> asked = new ArrayList<>();
    int ways = x.count(1);
    int bodies = x.count(2);
    for (int hour = 0; hour < 24; hour++) asked.add(new Call("heat", hour, 60));
    for (int b = 0; b < bodies; b++) asked.add(new Call("carry", b, 0));
    for (int b = 0; b < bodies; b++) asked.add(new Call("found", b, 0));
    int minutes = Math.min(7, 4320 - x.count(4));
    if (minutes > 0) asked.add(new Call("go", minutes));
    for (int b = 0; b < bodies; b++) {
      for (int what = 1; what <= 4; what++) asked.add(new Call("body", b, what));
    }
    for (int purpose = 0; purpose < 16; purpose++) asked.add(new Call("force", purpose, -1));
    for (int b = 0; b < bodies; b++) asked.add(new Call("unaim", b));
    for (int w = 0; w < ways; w++) asked.add(new Call("sign", w, 0));
    asked.add(new Call("cell", 0, 0, 0));
    asked.add(new Call("way", 0, 1, 101));
    asked.add(new Call("group", 0, 1, 0));
    asked.add(new Call("restore"));
    for (int what = 0; what <= 12; what++) asked.add(new Call("count", what));
    return asked;
  }
}
