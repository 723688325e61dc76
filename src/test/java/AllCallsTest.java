import java.lang.reflect.InvocationTargetException;
import java.lang.reflect.Method;
import java.util.ArrayList;
import java.util.HashMap;
import java.util.List;
import java.util.Map;

/**
 * Plays runs of all calls of the face, with arguments of all kinds, beside a slow plain that is written from the
 * document alone: each answer, of a refusal too, is due to be the same.
 */
public final class AllCallsTest {
  private static final Check check = new Check("AllCallsTest");
  private static final int MOST_CALLS = 512;
  private static final int[] FAR_OFF = {Integer.MIN_VALUE, Integer.MAX_VALUE, -4, -100, 65536, 4320, 4321, 100, 81, -11};
  private static final String SIGNS = "mhdpqnslutwx0123456789+-<>=!()|&";
  private static final Map<String, Method> FAST = faceOf(TentPlain.class);
  private static final Map<String, Method> SLOW = faceOf(SlowPlain.class);
  private static final String[] NAMES = {"cell", "way", "sign", "heat", "water", "about", "far", "group", "stray", "comes",
      "post", "aim", "unaim", "body", "fault", "text", "force", "holds", "stands", "schools", "go", "record", "pushed", "was",
      "whose", "sure", "bring", "found", "carry", "wrong", "closes", "wave", "rides", "round", "slot", "judge", "worst",
      "best", "image", "restore", "count", "keep", "row", "put", "element", "copy", "weight", "toss", "write", "counter",
      "slots", "rush", "look", "ride"};

  private static Map<String, Method> faceOf(Class<?> type) {
    Map<String, Method> face = new HashMap<>();
    for (Method m : type.getDeclaredMethods()) {
      if (java.util.Arrays.stream(m.getParameterTypes()).allMatch(p -> p == int.class)) face.putIfAbsent(m.getName(), m);
    }
    return face;
  }

  private final TentPlain fast = new TentPlain();
  private final SlowPlain slow = new SlowPlain();
  private final Dice dice;
  private final String game;
  private final List<String> made = new ArrayList<>();
  private final int[] weights = new int[NAMES.length];
  private final boolean narrow;
  private final boolean isLong;
  private final int favoured;
  private int asked = 0;
  private boolean isOff = false;

  private AllCallsTest(int number) {
    game = "game " + number + ": ";
    dice = new Dice(31000 + number);
    narrow = dice.oneIn(2);
    isLong = dice.oneIn(8);
    favoured = dice.below(4);
    for (int i = 0; i < weights.length; i++) weights[i] = dice.oneIn(3) ? 0 : dice.from(1, 6);
    for (int i = 0; i < weights.length; i++) {
      if (NAMES[i].equals("go")) weights[i] = isLong ? 40 : 20;
      if (NAMES[i].equals("rush")) weights[i] = dice.from(2, 12);
      if (NAMES[i].equals("look")) weights[i] = 12;
      if (List.of("best", "write", "slots", "counter").contains(NAMES[i])) weights[i] = Math.min(weights[i], 1);
      if (List.of("cell", "way", "row", "image", "restore").contains(NAMES[i])) weights[i] = Math.min(weights[i], 2);
    }
  }

  public static void main(String[] args) {
    int games = args.length > 0 ? Integer.parseInt(args[0]) : 600;
    int from = args.length > 1 ? Integer.parseInt(args[1]) : 0;
    for (int number = from; number < from + games; number++) new AllCallsTest(number).play();
    check.end();
  }

  private void play() {
    build();
    int all = 0;
    for (int w : weights) all += w;
    while (!isOver()) {
      int at = dice.below(all);
      int i = 0;
      while (at >= weights[i]) at -= weights[i++];
      call(NAMES[i]);
    }
  }

  private boolean isOver() {
    return isOff || asked >= MOST_CALLS;
  }

  /** One call on both; a game that went off is played no further. */
  private long ask(String name, int... args) {
    if (isOver()) return 0;
    asked++;
    String call = name + java.util.Arrays.toString(args);
    made.add(call);
    Object[] boxed = new Object[args.length];
    for (int i = 0; i < args.length; i++) boxed[i] = args[i];
    long due = answerOf(SLOW.get(name), slow, boxed);
    long answer = answerOf(FAST.get(name), fast, boxed);
    check.due(game + call, answer, due);
    if (answer != due) {
      isOff = true;
      System.out.println(made);
    }
    return due;
  }

  private static long answerOf(Method m, Object of, Object[] args) {
    try {
      return ((Number) m.invoke(of, args)).longValue();
    } catch (InvocationTargetException e) {
      if (of instanceof TentPlain && m.getName().equals("element")) {
        if (e.getCause().getClass() == IllegalArgumentException.class) return SlowPlain.NO_SHELF_THROWN;
        if (e.getCause().getClass() == IllegalStateException.class) return SlowPlain.NO_PLACE_THROWN;
      }
      throw new IllegalStateException(m.getName() + java.util.Arrays.toString(args), e.getCause());
    } catch (IllegalAccessException e) {
      throw new IllegalStateException(e);
    }
  }

  private int any(int least, int most) {
    if (dice.oneIn(60)) return FAR_OFF[dice.below(FAR_OFF.length)];
    if (dice.oneIn(30)) return dice.oneIn(2) ? least - 1 : most + 1;
    if (most < least) return least;
    if (dice.oneIn(8)) return dice.oneIn(2) ? least : most;
    return dice.from(least, most);
  }

  private int told(int what) {
    return (int) slow.count(what);
  }

  private int anyCell() {
    return any(0, told(0) - 1);
  }

  private int anyWay() {
    return any(0, told(1) - 1);
  }

  private int anyBody() {
    return any(0, told(2) - 1);
  }

  /** Of one KIND, mostly. */
  private int anyOf(int kind) {
    int bodies = told(2);
    for (int turn = 0; turn < 20 && bodies > 0; turn++) {
      int body = dice.below(bodies);
      if (slow.body(body, 0) == kind) return body;
    }
    return anyBody();
  }

  private int anyGroup() {
    return dice.oneIn(25) ? anyBody() : anyOf(0);
  }

  private int anyMinute() {
    return dice.oneIn(4) ? any(0, 4320) : any(Math.max(0, told(4) - 130), told(4));
  }

  private int anyShelf() {
    return any(0, 7);
  }

  private void build() {
    for (int i = dice.from(1, dice.oneIn(6) ? 17 : 7); i > 0; i--) call("cell");
    for (int i = dice.from(1, dice.oneIn(6) ? 25 : 10); i > 0; i--) call("way");
    for (int i = dice.from(0, dice.oneIn(6) ? 38 : 14); i > 0; i--) call("group");
    for (int i = dice.from(0, 6); i > 0; i--) call("aim");
    for (int i = dice.from(0, 8); i > 0; i--) call("rush");
    for (int i = dice.from(0, 4); i > 0; i--) call("post");
    for (int i = dice.from(0, 3); i > 0; i--) tell();
    for (int i = told(5) > 0 ? dice.from(0, 6) : 0; i > 0; i--) call("force");
  }

  private void call(String name) {
    switch (name) {
      case "cell": ask(name, dice.oneIn(3) ? favoured : any(0, 3), any(0, 9), dice.oneIn(2) ? any(0, 99999) : any(0, 300)); break;
      case "way": way(); break;
      case "sign": ask(name, anyWay(), any(0, 3)); break;
      case "heat": ask(name, any(0, 23), any(0, 60)); break;
      case "water": ask(name, anyCell(), any(1, 20000)); break;
      case "about": ask(name, anyWay(), any(0, 8)); break;
      case "far": ask(name, anyCell(), anyCell()); break;
      case "group": ask(name, anyCell(), narrow ? any(1, 100) : any(1, 400), 10 * any(0, dice.oneIn(2) ? 1 : 5) + any(0, 3)); break;
      case "stray": ask(name, anyCell(), any(0, dice.oneIn(2) ? 1 : 5), any(0, 110), dice.oneIn(3) ? anyGroup() : -1); break;
      case "comes": ask(name, dice.oneIn(9) ? any(0, 5) : 2 + dice.below(2) + 2 * dice.below(2), anyCell()); break;
      case "post": ask(name, anyWay()); break;
      case "aim": ask(name, anyGroup(), dice.oneIn(2) ? any(0, 4320) : told(4) + dice.below(200), anyCell()); break;
      case "unaim": ask(name, anyGroup()); break;
      case "body": ask(name, anyBody(), any(0, 13)); break;
      case "fault": case "text": case "weight": case "toss": case "wrong": ask(name, anyShelf()); break;
      case "force": ask(name, dice.oneIn(2) ? any(0, 15) : any(8, 10), any(-1, told(5) - 1)); break;
      case "holds": ask(name, any(0, told(5) - 1), any(-1, told(1) - 1), dice.oneIn(5) ? -1 : anyGroup()); break;
      case "stands": ask(name, anyGroup(), any(0, 1), any(0, 3)); break;
      case "schools": ask(name, anyGroup(), any(0, 1)); break;
      case "go": ask(name, isLong && dice.oneIn(2) ? 120 : dice.oneIn(3) ? any(1, 120) : any(1, 12)); break;
      case "record": ask(name, anyMinute(), any(0, 4)); break;
      case "pushed": ask(name, dice.oneIn(3) ? 0 : anyMinute(), any(0, 90)); break;
      case "was": ask(name, anyGroup(), anyMinute()); break;
      default: callMore(name);
    }
  }

  private void callMore(String name) {
    switch (name) {
      case "whose": case "sure": ask(name, anyOf(1)); break;
      case "bring": case "found": ask(name, anyOf(1), anyGroup()); break;
      case "carry": ask(name, anyOf(5), anyGroup()); break;
      case "closes": ask(name, anyShelf(), anyCell()); break;
      case "wave": ask(name, anyCell(), any(1, 2)); break;
      case "rides": ask(name, anyGroup(), any(1, 2)); break;
      case "round": ask(name, any(1, dice.oneIn(2) ? 5 : 3), gate()); break;
      case "slot": slot(); break;
      case "judge": ask(name, anyShelf(), gate()); break;
      case "worst": ask(name, any(-1, told(1) - 1), any(0, 3), dice.oneIn(3) ? any(1, 120) : any(1, 20)); break;
      case "best": ask(name, dice.oneIn(5) ? any(1, 120) : any(1, 20)); break;
      case "image": case "restore": ask(name); break;
      case "count": ask(name, any(0, 12)); break;
      case "keep": ask(name, anyShelf(), any(0, 1), anyBody()); break;
      case "row": ask(name, anyShelf(), any(0, 2), dice.oneIn(2) ? any(0, 80) : any(0, 8)); break;
      case "put": ask(name, anyShelf(), any(0, dice.oneIn(2) ? 79 : 5), dice.oneIn(2) ? dice.below(1 << 30) * 3 : dice.below(7)); break;
      case "element": ask(name, anyShelf(), any(0, dice.oneIn(2) ? 79 : 5)); break;
      case "copy": ask(name, anyShelf(), any(0, 9), anyShelf(), any(0, 9), any(0, dice.oneIn(2) ? 4 : 40)); break;
      case "write": tell(); break;
      case "counter": counter(); break;
      case "rush": rush(); break;
      case "look": look(); break;
      case "ride": ride(); break;
      default: slots();
    }
  }

  /** Not from a CELL to itself, mostly. */
  private void way() {
    int cells = Math.max(1, told(0));
    int a = dice.below(cells);
    int b = (a + dice.below(cells - 1 > 0 ? cells - 1 : 1) + 1) % cells;
    ask("way", dice.oneIn(12) ? anyCell() : a, dice.oneIn(12) ? anyCell() : b, wayTold());
  }

  /** Some GROUPS are to be in one CELL at once, so that WAYS get full. */
  private void rush() {
    if (told(3) == 0 || told(0) == 0) return;
    int cell = dice.below(told(0));
    for (int i = dice.from(1, 5); i > 0; i--) {
      int group = anyOf(0);
      if (dice.oneIn(2)) ask("unaim", group);
      ask("aim", group, told(4) + (dice.oneIn(3) ? dice.below(20) : 0), cell);
    }
    if (dice.oneIn(2)) return;
    ask("go", dice.from(1, 6));
    look();
  }

  /** What changes by itself is asked more often. */
  private void look() {
    for (int i = 0; i < 3; i++) ask("about", anyWay(), any(5, 8));
    for (int i = 0; i < 5; i++) ask("body", anyOf(0), any(1, 12));
    ask("was", anyOf(0), any(Math.max(0, told(4) - 20), told(4) - 1));
    ask("record", any(Math.max(0, told(4) - 20), told(4) - 1), any(0, 4));
    ask("count", any(6, 9));
  }

  /** Where a GROUP is or where one may come, so that there is more than one. */
  private void ride() {
    int group = anyOf(0);
    int cell = (int) slow.body(group, 1);
    if (cell < 0) return;
    if (dice.oneIn(2)) ask("comes", any(2, 3), cell);
    if (dice.oneIn(3)) ask("group", cell, any(1, dice.oneIn(2) ? 60 : 310), any(0, 3));
    int rides = any(1, 2);
    ask("wave", cell, rides);
    for (int i = 0; i < 2; i++) ask("rides", i == 0 ? group : anyOf(0), rides);
  }

  private int wayTold() {
    int width = narrow || dice.oneIn(3) ? any(1, 2) : any(1, dice.oneIn(5) ? 60 : 6);
    return 100 * width + any(1, dice.oneIn(2) ? 5 : 30);
  }

  private int gate() {
    return dice.oneIn(3) ? any(1, 2000) : any(1, narrow ? 200 : 600);
  }

  private void slot() {
    int k = any(1, dice.oneIn(3) ? 5 : 3);
    int gate = gate();
    ask("slot", k, gate, any(0, Math.max(1, Math.min(k, 5)) - 1));
  }

  private void put(int d, String text) {
    ask("row", d, 0, text.length());
    for (int i = 0; i < text.length(); i++) ask("put", d, i, text.charAt(i));
  }

  private void tell() {
    String text = anyText(dice.oneIn(3) ? dice.below(10) : dice.below(2));
    for (int i = dice.oneIn(2) ? 0 : dice.from(1, 2); i > 0 && !text.isEmpty(); i--) {
      int at = dice.below(text.length());
      text = text.substring(0, at) + SIGNS.charAt(dice.below(SIGNS.length())) + text.substring(at + dice.below(2));
    }
    if (text.length() > 40 && !dice.oneIn(9)) return;
    if (text.length() > 80) text = text.substring(0, 80);
    int d = dice.below(8);
    put(d, text);
    ask("fault", d);
    if (ask("text", d) >= 0 && dice.oneIn(2)) ask("force", any(0, 15), told(5) - 1);
  }

  private String anyText(int depth) {
    StringBuilder text = new StringBuilder();
    for (int i = dice.from(1, 2); i > 0; i--) {
      while (dice.oneIn(4)) text.append('!');
      if (depth > 0 && dice.oneIn(2)) text.append('(').append(anyText(depth - 1)).append(')');
      else text.append(anySum()).append("<>=".charAt(dice.below(3))).append(anySum());
      if (i > 1) text.append(dice.oneIn(2) ? '&' : '|');
    }
    return text.toString();
  }

  private String anySum() {
    StringBuilder sum = new StringBuilder();
    for (int i = dice.from(1, dice.oneIn(3) ? 3 : 1); i > 0; i--) {
      if (dice.oneIn(2)) sum.append(SIGNS.charAt(dice.below(12)));
      else sum.append(dice.oneIn(2) ? dice.below(70) : dice.below(10000));
      if (i > 1) sum.append(dice.oneIn(2) ? '+' : '-');
    }
    return sum.toString();
  }

  /** What is told is as it is, mostly. */
  private void counter() {
    int d = dice.below(8);
    int ways = told(1) + (dice.oneIn(9) ? 1 : 0);
    ask("row", d, 2, ways);
    for (int w = 0; w < ways; w++) {
      int there = (int) Math.max(0, slow.about(w, 7));
      if (there > 0 || dice.oneIn(9)) ask("put", d, w, there + (dice.oneIn(9) ? dice.from(-1, 1) : 0));
    }
    ask("wrong", d);
    for (int i = 0; i < 3; i++) ask("closes", d, anyCell());
  }

  private void slots() {
    int d = dice.below(8);
    int k = any(1, Math.min(5, told(3)));
    ask("row", d, 0, Math.max(0, Math.min(k, 6)));
    for (int i = 0; i < k && i < 6; i++) ask("put", d, i, dice.oneIn(20) ? dice.from(-1, 6) : dice.below(6));
    for (int i = 0; i < 3; i++) ask("judge", d, gate());
  }
}
