import java.util.ArrayList;
import java.util.List;

/** Plays random plains beside a slow model written from the document alone, and compares what they answer. */
public final class ModelTest {
  private static final Check check = new Check("ModelTest");
  /** Each answer is of one call; what is told at first, and what a turn may ask, stays below 512 with them. */
  private static final int MOST_ANSWERS = 320;

  /** One thing of each, as the document names them. */
  private static final class Group {
    int body, cell = -1, way = -1, to, left, heads, tongue, sun, stood, thrown, fell, fainted, day = -1, today, since;
    final List<int[]> aims = new ArrayList<>();
    final List<Integer> places = new ArrayList<>();

    Group copy() {
      Group g = new Group();
      g.body = body; g.cell = cell; g.way = way; g.to = to; g.left = left; g.heads = heads; g.tongue = tongue;
      g.sun = sun; g.stood = stood; g.thrown = thrown; g.fell = fell; g.fainted = fainted; g.day = day;
      g.today = today; g.since = since;
      g.aims.addAll(aims);
      g.places.addAll(places);
      return g;
    }

    int[] aim(int now) {
      int[] holding = null;
      for (int[] a : aims) if (a[0] <= now) holding = a;
      return holding;
    }
  }

  private static final class Way {
    int a, b, width, length, sign, press, push, shut;

    Way copy() {
      Way w = new Way();
      w.a = a; w.b = b; w.width = width; w.length = length; w.sign = sign; w.press = press; w.push = push; w.shut = shut;
      return w;
    }

    boolean from(int cell) {
      return sign != 3 && (cell == a && sign != 2 || cell == b && sign != 1);
    }

    int other(int cell) {
      return cell == a ? b : a;
    }
  }

  private static final class Model {
    int now;
    final List<int[]> cells = new ArrayList<>();
    final List<Way> ways = new ArrayList<>();
    final List<Group> groups = new ArrayList<>();
    final List<Integer> posts = new ArrayList<>();
    final int[] heat = new int[24];
    final int[] limits = new int[8];
    final List<int[]> record = new ArrayList<>();

    Model copy() {
      Model m = new Model();
      m.now = now;
      for (int[] c : cells) m.cells.add(c.clone());
      for (Way w : ways) m.ways.add(w.copy());
      for (Group g : groups) m.groups.add(g.copy());
      m.posts.addAll(posts);
      System.arraycopy(heat, 0, m.heat, 0, 24);
      System.arraycopy(limits, 0, m.limits, 0, 8);
      m.record.addAll(record);
      return m;
    }

    int on(int way) {
      int heads = 0;
      for (Group g : groups) if (g.way == way) heads += g.heads;
      return heads;
    }

    int far(int from, int to) {
      int[] far = new int[cells.size()];
      java.util.Arrays.fill(far, 99999);
      far[from] = 0;
      for (int turn = 0; turn < cells.size(); turn++) {
        for (Way w : ways) {
          if (w.from(w.a)) far[w.b] = Math.min(far[w.b], far[w.a] + w.length);
          if (w.from(w.b)) far[w.a] = Math.min(far[w.a], far[w.b] + w.length);
        }
      }
      return far[to] >= 99999 ? -4 : far[to];
    }

    int minute() {
      List<Integer> were = new ArrayList<>();
      for (Way w : ways) were.add(w.push);
      int worst = 0;
      int most = 0;
      for (int i = 0; i < ways.size(); i++) ways.get(i).press = on(i) / ways.get(i).width;
      for (int i = 0; i < ways.size(); i++) {
        Way w = ways.get(i);
        int beside = 0;
        for (int j = 0; j < ways.size(); j++) {
          Way v = ways.get(j);
          if (j != i && (v.a == w.a || v.a == w.b || v.b == w.a || v.b == w.b)) beside = Math.max(beside, were.get(j));
        }
        w.push = w.press > 60 ? w.press - 60 + were.get(i) / 2 : w.press >= 30 ? beside / 2 : 0;
        w.shut = w.sign == 3 ? 1 : 0;
        worst = Math.max(worst, w.press);
        most = Math.max(most, w.push);
      }
      for (int k = 0; k < posts.size(); k++) {
        Way w = ways.get(posts.get(k));
        if (limits[k] > 0 && (w.press + w.push > limits[k] || limits[k] % 2 == 0 && (now % 1440 < 20 || now % 1440 > 96 && now % 1440 < 117))) w.shut = 1;
      }
      for (Group g : groups) {
        if (g.way >= 0 && ways.get(g.way).push >= 20) {
          int f = g.heads * ways.get(g.way).push / 500;
          g.heads -= f;
          g.fell += f;
        }
      }
      for (Group g : groups) walk(g);
      for (Group g : groups) step(g);
      for (Group g : groups) rite(g);
      for (Group g : groups) warm(g);
      int[] r = {worst, most, 0, 0, 0};
      for (Group g : groups) {
        r[2] += g.heads;
        r[3] += g.fell;
        r[4] += g.fainted;
        g.places.add(g.cell >= 0 ? g.cell : 100 + g.way);
      }
      record.add(r);
      now++;
      return worst;
    }

    void walk(Group g) {
      if (g.way < 0) return;
      int press = ways.get(g.way).press;
      if (press >= 80 || press >= 40 && now % 2 == 1) return;
      if (--g.left == 0) {
        g.cell = g.to;
        g.way = -1;
      }
    }

    void step(Group g) {
      int[] aim = g.aim(now);
      if (g.cell < 0 || g.heads == 0 || aim == null || aim[1] == g.cell) return;
      int least = far(g.cell, aim[1]);
      if (least < 0) return;
      for (int i = 0; i < ways.size(); i++) {
        Way w = ways.get(i);
        if (!w.from(g.cell) || w.shut == 1) continue;
        int rest = far(w.other(g.cell), aim[1]);
        if (rest < 0 || rest + w.length != least) continue;
        if (on(i) + g.heads <= 100 * w.width) {
          g.to = w.other(g.cell);
          g.cell = -1;
          g.way = i;
          g.left = w.length;
        }
        return;
      }
    }

    void rite(Group g) {
      if (g.cell < 0 || g.heads == 0) return;
      int hour = now / 60 % 24;
      if (cells.get(g.cell)[0] == 1 && hour >= 12 && hour <= 17) g.stood++;
      if (cells.get(g.cell)[0] == 2 && now % 60 == 0) {
        if (g.day != now / 1440) g.today = 0;
        g.day = now / 1440;
        if (g.today < 7) {
          g.today++;
          g.thrown++;
        }
      }
    }

    void warm(Group g) {
      if (g.heads == 0) return;
      int hot = heat[now / 60 % 24];
      if (g.cell < 0) {
        g.sun += hot;
      } else {
        int[] c = cells.get(g.cell);
        g.sun += Math.max(0, hot - 3 * c[1]);
        if (now % 30 == 0) {
          if (c[2] >= g.heads) {
            c[2] -= g.heads;
            g.sun = 0;
          } else {
            g.sun -= g.sun * c[2] / g.heads;
            c[2] = 0;
          }
        }
      }
      if (g.sun > 1500) {
        int f = Math.min(g.heads, g.heads / 50 + 1);
        g.heads -= f;
        g.fainted += f;
        g.sun = 1000;
      }
    }

    int worst(int n) {
      int worst = 0;
      for (int i = 0; i < n; i++) worst = Math.max(worst, minute());
      return worst;
    }
  }

  public static void main(String[] args) {
    for (int game = 0; game < 1500; game++) play(new Dice(100 + game), game);
    check.end();
  }

  private static void play(Dice dice, int game) {
    TentPlain x = new TentPlain();
    int from = check.asked();
    Model m = build(x, dice);
    Model kept = null;
    for (int turn = 0; turn < 60 && check.asked() - from < MOST_ANSWERS; turn++) {
      int what = dice.below(12);
      if (what < 4 && m.now < 4200) {
        int n = dice.oneIn(3) ? dice.from(1, 120) : dice.from(1, 10);
        check.due("game " + game + " go " + n + " at " + m.now, x.go(n), m.worst(n));
      } else if (what == 4) {
        int way = dice.below(m.ways.size());
        int sign = dice.below(4);
        check.due("sign", x.sign(way, sign), m.ways.get(way).sign);
        m.ways.get(way).sign = sign;
      } else if (what == 5) {
        aim(x, m, dice);
      } else if (what == 6 && m.now < 4200) {
        change(x, m, dice, game);
      } else if (what == 7 && dice.oneIn(2)) {
        check.due("image", x.image(), m.now);
        kept = m.copy();
      } else if (what == 8 && kept != null && dice.oneIn(2)) {
        check.due("restore", x.restore(), kept.now);
        m = kept.copy();
      } else if (what == 9) {
        int hour = dice.below(24);
        int hot = dice.below(61);
        check.due("heat", x.heat(hour, hot), m.heat[hour]);
        m.heat[hour] = hot;
      } else if (what == 10) {
        stray(x, m, dice);
      }
      compare(x, m, dice, game);
    }
  }

  /** Of many GROUPS and WAYS only some are asked each time, so that a game has many turns. */
  private static boolean isAsked(Dice dice, int of) {
    return of <= 2 || dice.below(of) < 2;
  }

  private static Model build(TentPlain x, Dice dice) {
    Model m = new Model();
    java.util.Arrays.fill(m.heat, 30);
    boolean narrow = dice.oneIn(2);
    int cells = dice.from(2, 8);
    for (int i = 0; i < cells; i++) {
      int[] c = {dice.below(4), dice.below(10), dice.oneIn(2) ? dice.below(90000) : dice.below(200)};
      check.due("cell", x.cell(c[0], c[1], c[2]), i);
      m.cells.add(c);
    }
    int ways = dice.from(1, 12);
    for (int i = 0; i < ways; i++) {
      Way w = new Way();
      w.a = dice.below(cells);
      w.b = (w.a + dice.from(1, cells - 1)) % cells;
      w.width = narrow ? 1 : dice.oneIn(2) ? dice.from(1, 3) : dice.from(1, 10);
      w.length = dice.oneIn(2) ? dice.from(1, 4) : dice.from(1, 30);
      check.due("way", x.way(w.a, w.b, 100 * w.width + w.length), i);
      m.ways.add(w);
    }
    int groups = dice.from(1, 20);
    for (int i = 0; i < groups; i++) {
      Group g = new Group();
      g.cell = dice.below(cells);
      g.heads = narrow ? dice.from(20, 100) : dice.oneIn(3) ? dice.from(1, 400) : dice.from(1, 90);
      g.tongue = dice.below(3);
      g.body = x.group(g.cell, g.heads, 10 * g.tongue + dice.below(4));
      m.groups.add(g);
      int aims = dice.below(4);
      for (int a = 0; a < aims; a++) aim(x, m, dice);
    }
    int posts = dice.below(4);
    for (int k = 0; k < posts; k++) {
      int way = dice.below(ways);
      x.post(way);
      m.posts.add(way);
      int limit = dice.from(1, 100);
      m.limits[k] = limit;
      x.force(8 + k, Check.tell(x, "p+q>" + limit + (limit % 2 == 0 ? "|m<20|m>96&m<117" : "")));
    }
    return m;
  }

  private static void aim(TentPlain x, Model m, Dice dice) {
    Group g = m.groups.get(dice.below(m.groups.size()));
    int[] a = {m.now + dice.below(60), dice.below(m.cells.size())};
    if (dice.oneIn(4)) {
      check.due("unaim", x.unaim(g.body), g.aims.size());
      g.aims.clear();
    }
    int size = g.aims.size();
    int due = size > 0 && a[0] < g.aims.get(size - 1)[0] ? -1 : size == 8 ? -2 : size + 1;
    check.due("aim", x.aim(g.body, a[0], a[1]), due);
    if (due > 0) g.aims.add(a);
  }

  private static void change(TentPlain x, Model m, Dice dice, int game) {
    int n = dice.from(1, 30);
    int way = dice.from(-1, m.ways.size() - 1);
    int sign = dice.below(4);
    Model mind = m.copy();
    if (way >= 0) mind.ways.get(way).sign = sign;
    check.due("game " + game + " worst", x.worst(way, sign, n), mind.worst(n));
    if (!dice.oneIn(3)) return;
    int least = 99999;
    int best = -4;
    for (int w = 0; w < m.ways.size() && w < 8; w++) {
      for (int s = 0; s < 4; s++) {
        mind = m.copy();
        mind.ways.get(w).sign = s;
        int worst = mind.worst(n);
        if (worst < least) {
          least = worst;
          best = 10 * w + s;
        }
      }
    }
    check.due("game " + game + " best", x.best(n), best);
  }

  private static void stray(TentPlain x, Model m, Dice dice) {
    int cell = dice.below(m.cells.size());
    int tongue = dice.below(3);
    int stray = x.stray(cell, tongue, 9, -1);
    if (stray < 0) return;
    int bits = 0;
    int only = -4;
    int many = 0;
    for (Group g : m.groups) {
      boolean can = g.cell == cell;
      for (int minute = Math.max(0, m.now - 120); minute < m.now; minute++) can |= g.places.get(minute) == cell;
      if (can && g.tongue == tongue) {
        many++;
        only = g.body;
        if (g.body <= 30) bits |= 1 << g.body;
      }
    }
    check.due("whose", x.whose(stray), bits);
    check.due("sure", x.sure(stray), many == 1 ? only : -4);
    Group to = m.groups.get(dice.below(m.groups.size()));
    check.due("bring", x.bring(stray, to.body), m.far(cell, to.cell >= 0 ? to.cell : to.to));
    Group g = m.groups.get(dice.below(m.groups.size()));
    boolean can = only == g.body && many == 1;
    if (can) {
      check.due("found", x.found(stray, g.body), g.heads + 1);
      g.heads++;
    }
  }

  private static void compare(TentPlain x, Model m, Dice dice, int game) {
    String at = "game " + game + " at " + m.now + " ";
    check.due(at + "now", x.count(4), m.now);
    for (int i = 0; i < m.ways.size(); i++) {
      Way w = m.ways.get(i);
      int[] due = {w.a, w.b, w.width, w.length, w.sign, w.press, w.push, m.on(i), w.shut};
      if (!isAsked(dice, m.ways.size())) continue;
      for (int what = 4; what < 9; what++) check.due(at + "about " + i + " " + what, x.about(i, what), due[what]);
    }
    int water = 0;
    for (int[] c : m.cells) water += c[2];
    check.due(at + "water", x.count(11), water);
    for (Group g : m.groups) {
      if (!isAsked(dice, m.groups.size())) continue;
      boolean on = g.way >= 0;
      int[] due = {on ? -4 : g.cell, on ? g.way : -4, on ? g.left : 0, g.heads};
      for (int what = 0; what < 4; what++) check.due(at + "body " + g.body, x.body(g.body, 1 + what), due[what]);
      int[] more = {g.sun, g.stood, g.thrown, g.fell, g.fainted};
      for (int what = 0; what < 5; what++) check.due(at + "body " + g.body, x.body(g.body, 8 + what), more[what]);
      if (m.now > 0) {
        int minute = dice.below(m.now);
        check.due(at + "was", x.was(g.body, minute), g.places.get(minute));
      }
    }
    if (m.now > 0) {
      int minute = dice.below(m.now);
      for (int what = 0; what < 5; what++) {
        check.due(at + "record " + minute, x.record(minute, what), m.record.get(minute)[what]);
      }
      int n = dice.below(60);
      int first = minute;
      while (first < m.now && m.record.get(first)[1] < n) first++;
      check.due(at + "pushed", x.pushed(minute, n), first < m.now ? first : -4);
    }
    int a = dice.below(m.cells.size());
    int b = dice.below(m.cells.size());
    check.due(at + "far", x.far(a, b), m.far(a, b));
  }
}
