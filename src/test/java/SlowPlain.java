import java.io.ByteArrayInputStream;
import java.io.ByteArrayOutputStream;
import java.io.IOException;
import java.io.ObjectInputStream;
import java.io.ObjectOutputStream;
import java.io.Serializable;
import java.util.ArrayList;
import java.util.Arrays;
import java.util.List;
import java.util.TreeMap;
import java.util.regex.Pattern;

/**
 * All that the document promises, once more: slowly, by its words alone, and by other means than the class. Nothing is
 * kept that can be reckoned, THE IMAGE is a copy of all there is, waves and rounds are all looked at.
 */
final class SlowPlain {
  static final long NO_SHELF_THROWN = Long.MIN_VALUE;
  static final long NO_PLACE_THROWN = Long.MIN_VALUE + 1;
  private static final int FAR_OFF = 1 << 20;

  private static final class Way implements Serializable {
    int a, b, width, length, sign, press, push;
    boolean shut;

    boolean leadsFrom(int cell) {
      return sign == 0 && (cell == a || cell == b) || sign == 1 && cell == a || sign == 2 && cell == b;
    }

    int other(int cell) {
      return cell == a ? b : a;
    }

    boolean meets(Way w) {
      return a == w.a || a == w.b || b == w.a || b == w.b;
    }
  }

  private static final class Being implements Serializable {
    int number, kind, heads, tongue = -4, trait = -4, known = -1, sun, stood, fell, fainted, carried, left;
    Integer cell, way, out;
    List<int[]> aims = new ArrayList<>();
    List<Integer> thrown = new ArrayList<>();
    TreeMap<Integer, Integer> places = new TreeMap<>();

    int seats() {
      return kind == 2 ? 50 : kind == 3 ? 300 : kind == 5 ? 1 : 0;
    }

    int[] aim(int now) {
      for (int i = aims.size() - 1; i >= 0; i--) if (aims.get(i)[0] <= now) return aims.get(i);
      return null;
    }

    long thrownOn(int day) {
      return thrown.stream().filter(m -> m / 1440 == day).count();
    }
  }

  private static final class All implements Serializable {
    int now;
    List<int[]> cells = new ArrayList<>();
    List<Way> ways = new ArrayList<>();
    List<Being> bodies = new ArrayList<>();
    int[] heat = new int[24];
    List<String> texts = new ArrayList<>();
    int[] force = new int[16];
    List<int[]> records = new ArrayList<>();
  }

  private static final class Row {
    int sort;
    int[] of;
  }

  private All all = new All();
  private All image;
  /** Each null, a Being as it was then, or a Row. */
  private final Object[] shelves = new Object[8];

  SlowPlain() {
    Arrays.fill(all.heat, 30);
    Arrays.fill(all.force, -1);
  }

  @SuppressWarnings("unchecked")
  private static <T> T copyOf(T what) {
    try {
      ByteArrayOutputStream bytes = new ByteArrayOutputStream();
      try (ObjectOutputStream out = new ObjectOutputStream(bytes)) {
        out.writeObject(what);
      }
      return (T) new ObjectInputStream(new ByteArrayInputStream(bytes.toByteArray())).readObject();
    } catch (IOException | ClassNotFoundException e) {
      throw new IllegalStateException(e);
    }
  }

  private static boolean in(int n, int least, int most) {
    return least <= n && n <= most;
  }

  private boolean cellIs(int c) {
    return in(c, 0, all.cells.size() - 1);
  }

  private boolean wayIs(int w) {
    return in(w, 0, all.ways.size() - 1);
  }

  private boolean bodyIs(int b, int kind) {
    return in(b, 0, all.bodies.size() - 1) && all.bodies.get(b).kind == kind;
  }

  private boolean textIs(int t) {
    return in(t, 0, all.texts.size() - 1);
  }

  private List<Being> ofKind(int kind) {
    return all.bodies.stream().filter(b -> b.kind == kind).toList();
  }

  private boolean isOn(Being b, int way) {
    return b.way != null && b.way == way;
  }

  private boolean isIn(Being b, int cell) {
    return b.cell != null && b.cell == cell;
  }

  private int headsOn(int way) {
    return ofKind(0).stream().filter(g -> isOn(g, way)).mapToInt(g -> g.heads).sum();
  }

  long cell(int sort, int shade, int water) {
    if (!in(sort, 0, 3) || !in(shade, 0, 9) || !in(water, 0, 99999)) return -1;
    if (all.cells.size() == 16) return -2;
    all.cells.add(new int[] {sort, shade, water});
    return all.cells.size() - 1;
  }

  long way(int a, int b, int told) {
    int width = Math.floorDiv(told, 100);
    int length = Math.floorMod(told, 100);
    if (!cellIs(a) || !cellIs(b) || a == b || !in(width, 1, 60) || !in(length, 1, 30)) return -1;
    if (all.ways.size() == 24) return -2;
    Way w = new Way();
    w.a = a;
    w.b = b;
    w.width = width;
    w.length = length;
    all.ways.add(w);
    return all.ways.size() - 1;
  }

  long sign(int way, int sign) {
    if (!wayIs(way) || !in(sign, 0, 3)) return -1;
    int was = all.ways.get(way).sign;
    all.ways.get(way).sign = sign;
    return was;
  }

  long heat(int hour, int n) {
    if (!in(hour, 0, 23) || !in(n, 0, 60)) return -1;
    int was = all.heat[hour];
    all.heat[hour] = n;
    return was;
  }

  long water(int cell, int n) {
    if (!cellIs(cell) || !in(n, 1, 20000)) return -1;
    int then = all.cells.get(cell)[2] + n;
    if (then > 99999) return -2;
    all.cells.get(cell)[2] = then;
    return then;
  }

  long about(int way, int what) {
    if (!wayIs(way) || !in(what, 0, 8)) return -1;
    Way w = all.ways.get(way);
    return new int[] {w.a, w.b, w.width, w.length, w.sign, w.press, w.push, headsOn(way), w.shut ? 1 : 0}[what];
  }

  long far(int a, int b) {
    if (!cellIs(a) || !cellIs(b)) return -1;
    int far = farFrom(a)[b];
    return far >= FAR_OFF ? -4 : far;
  }

  private int[] farFrom(int from) {
    int[] far = new int[16];
    Arrays.fill(far, FAR_OFF);
    far[from] = 0;
    boolean shorter = true;
    while (shorter) {
      shorter = false;
      for (Way w : all.ways) {
        for (int c : new int[] {w.a, w.b}) {
          if (w.leadsFrom(c) && far[c] + w.length < far[w.other(c)]) {
            far[w.other(c)] = far[c] + w.length;
            shorter = true;
          }
        }
      }
    }
    return far;
  }

  private Being born(int kind) {
    Being b = new Being();
    b.number = all.bodies.size();
    b.kind = kind;
    all.bodies.add(b);
    return b;
  }

  long group(int cell, int heads, int told) {
    int tongue = Math.floorDiv(told, 10);
    int school = Math.floorMod(told, 10);
    if (!cellIs(cell) || !in(heads, 1, 400) || !in(tongue, 0, 5) || !in(school, 0, 3)) return -1;
    if (all.bodies.size() == 40) return -2;
    Being g = born(0);
    g.cell = cell;
    g.heads = heads;
    g.tongue = tongue;
    g.trait = school;
    return g.number;
  }

  long stray(int cell, int tongue, int age, int group) {
    if (!cellIs(cell) || !in(tongue, 0, 5) || !in(age, 0, 110) || group != -1 && !bodyIs(group, 0)) return -1;
    if (all.bodies.size() == 40) return -2;
    Being s = born(1);
    s.cell = cell;
    s.heads = 1;
    s.tongue = tongue;
    s.trait = age;
    s.known = group;
    return s.number;
  }

  long comes(int kind, int cell) {
    if (kind != 2 && kind != 3 && kind != 5 || !cellIs(cell)) return -1;
    if (all.bodies.size() == 40) return -2;
    Being b = born(kind);
    b.cell = cell;
    return b.number;
  }

  long post(int way) {
    if (!wayIs(way)) return -1;
    if (all.bodies.size() == 40 || ofKind(4).size() == 8) return -2;
    Being p = born(4);
    p.way = way;
    return p.number;
  }

  long aim(int group, int minute, int cell) {
    if (!bodyIs(group, 0) || !in(minute, 0, 4320) || !cellIs(cell)) return -1;
    List<int[]> aims = all.bodies.get(group).aims;
    if (!aims.isEmpty() && minute < aims.get(aims.size() - 1)[0]) return -1;
    if (aims.size() == 8) return -2;
    aims.add(new int[] {minute, cell});
    return aims.size();
  }

  long unaim(int group) {
    if (!bodyIs(group, 0)) return -1;
    int had = all.bodies.get(group).aims.size();
    all.bodies.get(group).aims.clear();
    return had;
  }

  long body(int body, int what) {
    if (!in(body, 0, all.bodies.size() - 1) || !in(what, 0, 13)) return -1;
    Being b = all.bodies.get(body);
    return new int[] {b.kind, b.cell == null ? -4 : b.cell, b.way == null ? -4 : b.way, b.left, b.heads, b.seats(), b.tongue,
        b.trait, b.sun, b.stood, b.thrown.size(), b.fell, b.fainted, b.carried}[what];
  }

  private long rowRefusal(int d, int sort) {
    if (!in(d, 0, 7)) return -1;
    if (shelves[d] == null) return -11;
    return shelves[d] instanceof Row r && (sort < 0 || r.sort == sort) ? 0 : -12;
  }

  private int[] rowOf(int d) {
    return ((Row) shelves[d]).of;
  }

  private String signsOf(int d) {
    StringBuilder signs = new StringBuilder();
    for (int v : rowOf(d)) signs.append((char) (v & 255));
    return signs.toString();
  }

  /** The longest beginning with which a TEXT can go on: each shorter one can, too, so that halves tell. */
  private static int faultOf(String text) {
    if (isText(text)) return -4;
    int can = 0;
    int cannot = text.length() + 1;
    while (cannot - can > 1) {
      int half = (can + cannot) / 2;
      if (canGoOn(text.substring(0, half))) can = half;
      else cannot = half;
    }
    return can;
  }

  /** A beginning can go on if one of few ends, and as many brackets as are open, make a TEXT of it. */
  private static boolean canGoOn(String text) {
    int open = 0;
    for (char c : text.toCharArray()) open += c == '(' ? 1 : c == ')' ? -1 : 0;
    if (open < 0) return false;
    for (String end : new String[] {"", "0<0", "<0", "0"}) if (isText(text + end + ")".repeat(open))) return true;
    return false;
  }

  private static final String ATOM = "(?:0|[1-9][0-9]{0,3}|[mhdpqnslutwx])";
  private static final String SUM = ATOM + "(?:[+-]" + ATOM + ")*";
  private static final Pattern PLAIN_TEST =
      Pattern.compile("(?<![0-9a-z+<>=-])" + SUM + "[<>=]" + SUM + "(?![0-9a-z+<>=(!-])");
  private static final Pattern IN_BRACKETS = Pattern.compile("(?<![T)])\\(!*T(?:[&|]!*T)*\\)(?![T(!])");
  private static final Pattern WHOLE = Pattern.compile("!*T(?:[&|]!*T)*");

  /** From within: a T is put in the place of a plain TEST, then of brackets that hold none, eight times at most. */
  private static boolean isText(String text) {
    if (text.indexOf('T') >= 0) return false;
    String left = PLAIN_TEST.matcher(text).replaceAll("T");
    for (int deep = 0; deep < 8; deep++) left = IN_BRACKETS.matcher(left).replaceAll("T");
    return WHOLE.matcher(left).matches();
  }

  long fault(int d) {
    long refusal = rowRefusal(d, 0);
    return refusal != 0 ? refusal : faultOf(signsOf(d));
  }

  long text(int d) {
    if (!in(d, 0, 7)) return -1;
    if (all.texts.size() == 20) return -2;
    long refusal = rowRefusal(d, 0);
    if (refusal != 0) return refusal;
    int fault = faultOf(signsOf(d));
    if (fault != -4) return -100 - fault;
    all.texts.add(signsOf(d));
    return all.texts.size() - 1;
  }

  long force(int purpose, int text) {
    if (!in(purpose, 0, 15) || text != -1 && !textIs(text)) return -1;
    int was = all.force[purpose];
    all.force[purpose] = text;
    return was == -1 ? -4 : was;
  }

  /** Splits a text at its signs of least bond that stand outside of brackets. */
  private boolean holds(String text, Way w, Being g) {
    for (char sign : new char[] {'|', '&'}) {
      int depth = 0;
      for (int i = 0; i < text.length(); i++) {
        char c = text.charAt(i);
        depth += c == '(' ? 1 : c == ')' ? -1 : 0;
        if (c == sign && depth == 0) {
          boolean left = holds(text.substring(0, i), w, g);
          boolean right = holds(text.substring(i + 1), w, g);
          return sign == '|' ? left || right : left && right;
        }
      }
    }
    if (text.charAt(0) == '!') return !holds(text.substring(1), w, g);
    if (text.charAt(0) == '(') return holds(text.substring(1, text.length() - 1), w, g);
    String[] sums = text.split("[<>=]");
    long left = sum(sums[0], w, g);
    long right = sum(sums[1], w, g);
    char sign = text.charAt(sums[0].length());
    return sign == '<' ? left < right : sign == '>' ? left > right : left == right;
  }

  private long sum(String sum, Way w, Being g) {
    long sumOf = 0;
    for (String atom : sum.split("(?=[+-])")) {
      boolean less = atom.charAt(0) == '-';
      String plain = atom.replaceAll("[+-]", "");
      long value = Character.isDigit(plain.charAt(0)) ? Long.parseLong(plain) : field(plain.charAt(0), w, g);
      sumOf += less ? -value : value;
    }
    return sumOf;
  }

  private long field(char field, Way w, Being g) {
    int hour = all.now / 60 % 24;
    switch (field) {
      case 'm': return all.now % 1440;
      case 'h': return hour;
      case 'd': return all.now / 1440;
      case 'x': return all.heat[hour];
      case 'p': return w == null ? 0 : w.press;
      case 'q': return w == null ? 0 : w.push;
      default: break;
    }
    if (g == null) return 0;
    switch (field) {
      case 'n': return g.heads;
      case 's': return g.trait;
      case 'l': return g.aim(all.now) == null ? 0 : Math.max(0, all.now - g.aim(all.now)[0]);
      case 'u': return g.sun;
      case 't': return g.stood;
      default: return g.thrown.size();
    }
  }

  long holds(int text, int way, int group) {
    if (!textIs(text) || way != -1 && !wayIs(way) || group != -1 && !bodyIs(group, 0)) return -1;
    Way w = way == -1 ? null : all.ways.get(way);
    Being g = group == -1 ? null : all.bodies.get(group);
    return holds(all.texts.get(text), w, g) ? 1 : 0;
  }

  long stands(int group, int rite, int school) {
    if (!bodyIs(group, 0) || !in(rite, 0, 1) || !in(school, 0, 3)) return -1;
    Being g = all.bodies.get(group);
    int text = all.force[4 * rite + school];
    if (text >= 0) return holds(all.texts.get(text), null, g) ? 1 : 0;
    return rite == 0 && g.stood >= 60 || rite == 1 && g.thrown.size() >= 3 ? 1 : 0;
  }

  long schools(int group, int rite) {
    if (!bodyIs(group, 0) || !in(rite, 0, 1)) return -1;
    return stands(group, rite, 0) + 2 * stands(group, rite, 1) + 4 * stands(group, rite, 2) + 8 * stands(group, rite, 3);
  }

  /** 1 to 7 of part 3, in its order. */
  private int minute() {
    int[] pushes = all.ways.stream().mapToInt(w -> w.push).toArray();
    for (int i = 0; i < pushes.length; i++) all.ways.get(i).press = headsOn(i) / all.ways.get(i).width;
    for (int i = 0; i < pushes.length; i++) {
      Way w = all.ways.get(i);
      int beside = 0;
      for (int j = 0; j < pushes.length; j++) if (j != i && w.meets(all.ways.get(j))) beside = Math.max(beside, pushes[j]);
      w.push = w.press > 60 ? w.press - 60 + pushes[i] / 2 : w.press >= 30 ? beside / 2 : 0;
    }
    for (int i = 0; i < pushes.length; i++) all.ways.get(i).shut = all.ways.get(i).sign == 3 || isShutByPost(i);
    List<Being> groups = ofKind(0);
    for (Being g : groups) falls(g);
    for (Being g : groups) walks(g);
    for (Being g : groups) steps(g);
    for (Being g : groups) if (g.cell != null && g.heads > 0) keepsRites(g);
    for (Being g : groups) if (g.heads > 0) isHot(g);
    int press = all.ways.stream().mapToInt(w -> w.press).max().orElse(0);
    int push = all.ways.stream().mapToInt(w -> w.push).max().orElse(0);
    int fell = groups.stream().mapToInt(g -> g.fell).sum();
    int fainted = groups.stream().mapToInt(g -> g.fainted).sum();
    all.records.add(new int[] {press, push, groups.stream().mapToInt(g -> g.heads).sum(), fell, fainted});
    for (Being g : groups) g.places.put(all.now, g.cell != null ? g.cell : 100 + g.way);
    all.now++;
    return press;
  }

  private boolean isShutByPost(int way) {
    List<Being> posts = ofKind(4);
    for (int k = 0; k < posts.size(); k++) {
      int text = all.force[8 + k];
      if (isOn(posts.get(k), way) && text >= 0 && holds(all.texts.get(text), all.ways.get(way), null)) return true;
    }
    return false;
  }

  private void falls(Being g) {
    if (g.way == null || all.ways.get(g.way).push < 20) return;
    int fell = g.heads * all.ways.get(g.way).push / 500;
    g.heads -= fell;
    g.fell += fell;
  }

  private void walks(Being g) {
    if (g.way == null) return;
    int press = all.ways.get(g.way).press;
    if (press >= 80 || press >= 40 && all.now % 2 == 1) return;
    g.left--;
    if (g.left > 0) return;
    g.cell = g.out;
    g.way = null;
    g.out = null;
  }

  private void steps(Being g) {
    int[] aim = g.aim(all.now);
    if (g.cell == null || g.heads == 0 || aim == null || aim[1] == g.cell) return;
    int least = farFrom(g.cell)[aim[1]];
    if (least >= FAR_OFF) return;
    for (int i = 0; i < all.ways.size(); i++) {
      Way w = all.ways.get(i);
      if (!w.leadsFrom(g.cell) || w.shut || w.length + farFrom(w.other(g.cell))[aim[1]] != least) continue;
      if (headsOn(i) + g.heads > 100 * w.width) return;
      g.out = w.other(g.cell);
      g.way = i;
      g.left = w.length;
      g.cell = null;
      return;
    }
  }

  private void keepsRites(Being g) {
    int sort = all.cells.get(g.cell)[0];
    if (sort == 1 && in(all.now / 60 % 24, 12, 17)) g.stood++;
    if (sort == 2 && all.now % 60 == 0 && g.thrownOn(all.now / 1440) < 7) g.thrown.add(all.now);
  }

  private void isHot(Being g) {
    int heat = all.heat[all.now / 60 % 24];
    g.sun += g.cell == null ? heat : Math.max(0, heat - 3 * all.cells.get(g.cell)[1]);
    if (g.cell != null && all.now % 30 == 0) {
      int[] cell = all.cells.get(g.cell);
      int cups = Math.min(cell[2], g.heads);
      g.sun = cups == g.heads ? 0 : g.sun - g.sun * cups / g.heads;
      cell[2] -= cups;
    }
    if (g.sun > 1500) {
      int fainted = Math.min(g.heads, g.heads / 50 + 1);
      g.heads -= fainted;
      g.fainted += fainted;
      g.sun = 1000;
    }
  }

  long go(int n) {
    if (!in(n, 1, 120)) return -1;
    if (all.now + n > 4320) return -2;
    int greatest = 0;
    for (int i = 0; i < n; i++) greatest = Math.max(greatest, minute());
    return greatest;
  }

  long record(int minute, int what) {
    if (!in(minute, 0, 4320) || !in(what, 0, 4)) return -1;
    return minute < all.now ? all.records.get(minute)[what] : -3;
  }

  long pushed(int from, int n) {
    if (!in(from, 0, 4320) || n < 0) return -1;
    for (int m = from; m < all.now; m++) if (all.records.get(m)[1] >= n) return m;
    return -4;
  }

  long was(int group, int minute) {
    if (!bodyIs(group, 0) || !in(minute, 0, 4320)) return -1;
    return all.bodies.get(group).places.getOrDefault(minute, -3);
  }

  private boolean canBe(Being s, Being g) {
    if (g.tongue != s.tongue) return false;
    return isIn(g, s.cell) || g.places.tailMap(all.now - 120).containsValue(s.cell);
  }

  long whose(int stray) {
    if (!bodyIs(stray, 1)) return -1;
    Being s = all.bodies.get(stray);
    if (s.cell == null) return -3;
    return ofKind(0).stream().filter(g -> g.number <= 30 && canBe(s, g)).mapToInt(g -> 1 << g.number).sum();
  }

  long sure(int stray) {
    if (!bodyIs(stray, 1)) return -1;
    Being s = all.bodies.get(stray);
    if (s.cell == null) return -3;
    List<Being> can = ofKind(0).stream().filter(g -> canBe(s, g)).toList();
    return can.size() == 1 ? can.get(0).number : -4;
  }

  long bring(int stray, int group) {
    if (!bodyIs(stray, 1) || !bodyIs(group, 0)) return -1;
    Being s = all.bodies.get(stray);
    Being g = all.bodies.get(group);
    return s.cell == null ? -3 : far(s.cell, g.cell != null ? g.cell : g.out);
  }

  long found(int stray, int group) {
    if (!bodyIs(stray, 1) || !bodyIs(group, 0)) return -1;
    Being s = all.bodies.get(stray);
    Being g = all.bodies.get(group);
    if (s.cell == null || !canBe(s, g) || s.known >= 0 && s.known != group) return -3;
    s.cell = null;
    s.heads = 0;
    return ++g.heads;
  }

  long carry(int litter, int group) {
    if (!bodyIs(litter, 5) || !bodyIs(group, 0)) return -1;
    Being g = all.bodies.get(group);
    if (!isIn(g, all.bodies.get(litter).cell) || g.carried == g.fell + g.fainted) return -3;
    return ++g.carried;
  }

  private long counterRefusal(int d) {
    long refusal = rowRefusal(d, 2);
    return refusal != 0 ? refusal : rowOf(d).length == all.ways.size() ? 0 : -13;
  }

  long wrong(int d) {
    if (counterRefusal(d) != 0) return counterRefusal(d);
    for (int w = 0; w < all.ways.size(); w++) if (rowOf(d)[w] != headsOn(w)) return w;
    return -4;
  }

  long closes(int d, int cell) {
    if (!cellIs(cell)) return -1;
    if (counterRefusal(d) != 0) return counterRefusal(d);
    long more = 0;
    for (int w = 0; w < all.ways.size(); w++) {
      Way touched = all.ways.get(w);
      if (touched.a == cell || touched.b == cell) more += (long) rowOf(d)[w] - headsOn(w);
    }
    return more == 0 ? 1 : 0;
  }

  private List<Being> waiting(int cell) {
    return ofKind(0).stream().filter(g -> isIn(g, cell) && g.heads > 0).limit(6).toList();
  }

  private List<Being> vehicles(int cell) {
    return all.bodies.stream().filter(b -> (b.kind == 2 || b.kind == 3) && isIn(b, cell)).limit(3).toList();
  }

  /** Of each GROUP its ride, the last number for none, and behind them the HEADS that go: all are looked at. */
  private int[] waveOf(int cell, int rides) {
    List<Being> groups = waiting(cell);
    List<Being> vehicles = vehicles(cell);
    int places = vehicles.size() * rides;
    int[] to = new int[groups.size() + 1];
    int[] best = null;
    while (true) {
      int[] heads = new int[places + 1];
      int gone = 0;
      for (int i = 0; i < groups.size(); i++) {
        heads[to[i]] += groups.get(i).heads;
        if (to[i] < places) gone += groups.get(i).heads;
      }
      boolean fits = true;
      for (int r = 0; r < places; r++) fits &= heads[r] <= vehicles.get(r / rides).seats();
      to[groups.size()] = gone;
      if (fits && (best == null || gone > best[groups.size()])) best = to.clone();
      int at = groups.size() - 1;
      while (at >= 0 && to[at] == places) to[at--] = 0;
      if (at < 0) return best;
      to[at]++;
    }
  }

  long wave(int cell, int rides) {
    if (!cellIs(cell) || !in(rides, 1, 2)) return -1;
    if (all.cells.get(cell)[0] != 3) return -3;
    int[] wave = waveOf(cell, rides);
    return wave[wave.length - 1];
  }

  long rides(int group, int rides) {
    if (!bodyIs(group, 0) || !in(rides, 1, 2)) return -1;
    Being g = all.bodies.get(group);
    if (g.cell == null || all.cells.get(g.cell)[0] != 3) return -3;
    int at = waiting(g.cell).indexOf(g);
    if (at < 0) return -4;
    int ride = waveOf(g.cell, rides)[at];
    List<Being> vehicles = vehicles(g.cell);
    return ride == vehicles.size() * rides ? -4 : 10 * vehicles.get(ride / rides).number + ride % rides;
  }

  /** Whoever is LATE (-1: nobody): the first SLOT in which more come than the gate lets in, or 6. */
  private int firstOver(int[] slots, int gate) {
    List<Being> groups = ofKind(0);
    int first = 6;
    for (int late = -1; late < slots.length; late++) {
      int[] come = new int[7];
      for (int i = 0; i < slots.length; i++) come[slots[i] + (i == late ? 1 : 0)] += groups.get(i).heads;
      for (int slot = 5; slot >= 0; slot--) if (come[slot] > gate) first = Math.min(first, slot);
    }
    return first;
  }

  /** All are looked at, the first GROUP's SLOT least of all; null if there is none. */
  private int[] roundOf(int k, int gate) {
    int[] best = null;
    int most = 6;
    for (int number = 0; number < Math.pow(6, k); number++) {
      int[] slots = new int[k];
      int rest = number;
      for (int i = k - 1; i >= 0; i--) {
        slots[i] = rest % 6;
        rest /= 6;
      }
      int greatest = Arrays.stream(slots).max().getAsInt();
      if (greatest < most && firstOver(slots, gate) == 6) {
        most = greatest;
        best = slots;
      }
    }
    return best;
  }

  long round(int k, int gate) {
    if (!in(k, 1, 5) || k > ofKind(0).size() || !in(gate, 1, 2000)) return -1;
    int[] slots = roundOf(k, gate);
    return slots == null ? -4 : Arrays.stream(slots).max().getAsInt();
  }

  long slot(int k, int gate, int i) {
    if (!in(k, 1, 5) || k > ofKind(0).size() || !in(gate, 1, 2000) || !in(i, 0, k - 1)) return -1;
    int[] slots = roundOf(k, gate);
    return slots == null ? -4 : slots[i];
  }

  long judge(int d, int gate) {
    if (!in(gate, 1, 2000)) return -1;
    if (rowRefusal(d, 0) != 0) return rowRefusal(d, 0);
    int[] slots = rowOf(d);
    if (!in(slots.length, 1, 5) || slots.length > ofKind(0).size()) return -13;
    for (int i = 0; i < slots.length; i++) if (!in(slots[i], 0, 5)) return i;
    int over = firstOver(slots, gate);
    return over == 6 ? -4 : 100 + over;
  }

  /** In mind what went by does not matter, so that it need not be copied. */
  private int worstOf(int way, int sign, int n) {
    All real = all;
    List<int[]> records = real.records;
    List<TreeMap<Integer, Integer>> places = new ArrayList<>();
    for (Being b : real.bodies) {
      places.add(b.places);
      b.places = new TreeMap<>();
    }
    real.records = new ArrayList<>();
    all = copyOf(real);
    for (int i = 0; i < places.size(); i++) real.bodies.get(i).places = places.get(i);
    real.records = records;
    if (way >= 0) all.ways.get(way).sign = sign;
    int greatest = 0;
    for (int i = 0; i < n; i++) greatest = Math.max(greatest, minute());
    all = real;
    return greatest;
  }

  long worst(int way, int sign, int n) {
    if (way != -1 && !wayIs(way) || !in(sign, 0, 3) || !in(n, 1, 120)) return -1;
    return all.now + n > 4320 ? -2 : worstOf(way, sign, n);
  }

  long best(int n) {
    if (!in(n, 1, 120)) return -1;
    if (all.now + n > 4320) return -2;
    int best = -4;
    int least = Integer.MAX_VALUE;
    for (int change = 0; change < 4 * Math.min(8, all.ways.size()); change++) {
      int worst = worstOf(change / 4, change % 4, n);
      if (worst < least) {
        least = worst;
        best = 10 * (change / 4) + change % 4;
      }
    }
    return best;
  }

  long image() {
    image = copyOf(all);
    return all.now;
  }

  long restore() {
    if (image == null) return -3;
    all = copyOf(image);
    return all.now;
  }

  long count(int what) {
    List<Being> groups = ofKind(0);
    switch (what) {
      case 0: return all.cells.size();
      case 1: return all.ways.size();
      case 2: return all.bodies.size();
      case 3: return groups.size();
      case 4: return all.now;
      case 5: return all.texts.size();
      case 6: return groups.stream().mapToInt(g -> g.heads).sum();
      case 7: return groups.stream().mapToInt(g -> g.fell).sum();
      case 8: return groups.stream().mapToInt(g -> g.fainted).sum();
      case 9: return groups.stream().mapToInt(g -> g.carried).sum();
      case 10: return ofKind(1).stream().filter(s -> s.cell != null).count();
      case 11: return all.cells.stream().mapToInt(c -> c[2]).sum();
      case 12: return ofKind(4).size();
      default: return -1;
    }
  }

  long keep(int d, int what, int k) {
    if (!in(d, 0, 7) || !in(what, 0, 1) || what == 1 && !in(k, 0, all.bodies.size() - 1)) return -1;
    shelves[d] = what == 0 ? null : copyOf(all.bodies.get(k));
    return 0;
  }

  long row(int d, int sort, int n) {
    if (!in(d, 0, 7) || !in(sort, 0, 2) || n > 80) return -1;
    if (n < 0) return -14;
    Row r = new Row();
    r.sort = sort;
    r.of = new int[n];
    shelves[d] = r;
    return 0;
  }

  long put(int d, int i, int v) {
    if (rowRefusal(d, -1) != 0) return rowRefusal(d, -1);
    if (!in(i, 0, rowOf(d).length - 1)) return -13;
    int bits = new int[] {8, 16, 32}[((Row) shelves[d]).sort];
    rowOf(d)[i] = v << 32 - bits >> 32 - bits;
    return 0;
  }

  long element(int d, int i) {
    if (!in(d, 0, 7)) return NO_SHELF_THROWN;
    if (rowRefusal(d, -1) != 0 || !in(i, 0, rowOf(d).length - 1)) return NO_PLACE_THROWN;
    return rowOf(d)[i];
  }

  long copy(int d, int i, int e, int j, int n) {
    if (!in(d, 0, 7) || !in(e, 0, 7)) return -1;
    if (shelves[d] == null || shelves[e] == null) return -11;
    if (!(shelves[d] instanceof Row from) || !(shelves[e] instanceof Row to) || from.sort != to.sort) return -12;
    if (n < 0 || i < 0 || j < 0 || (long) i + n > from.of.length || (long) j + n > to.of.length) return -13;
    int[] then = from.of.clone();
    for (int at = 0; at < n; at++) to.of[j + at] = then[i + at];
    return n;
  }

  private long bodyRefusal(int d) {
    if (!in(d, 0, 7)) return -1;
    return shelves[d] == null ? -11 : shelves[d] instanceof Row ? -12 : 0;
  }

  long weight(int d) {
    if (bodyRefusal(d) != 0) return bodyRefusal(d);
    Being b = (Being) shelves[d];
    int weight = 10 + b.heads + b.seats();
    switch (b.kind) {
      case 0: return weight + b.aims.size();
      case 1: return weight + b.trait;
      case 2: return weight + 100;
      case 3: return 2 * (weight + 100);
      case 4: return weight + 200 + b.way;
      default: return weight;
    }
  }

  long toss(int d) {
    if (bodyRefusal(d) != 0) return bodyRefusal(d);
    Being b = (Being) shelves[d];
    if (b.kind == 5 || b.cell == null) return -15;
    return b.kind == 3 ? 100 + b.number : b.number;
  }
}
