/** Promises 22 to 25, and what a MINUTE that goes by does. */
public final class MinutesTest {
  private static final Check check = new Check("MinutesTest");

  public static void main(String[] args) {
    going();
    records();
    pusheds();
    wases();
    presses();
    neighbours();
    pushHalves();
    falls();
    walks();
    steps();
    rooms();
    guides();
    posts();
    aims();
    standing();
    throwing();
    suns();
    drinks();
    faints();
    check.end();
  }

  private static TentPlain plain(int cells) {
    TentPlain x = new TentPlain();
    for (int i = 0; i < cells; i++) x.cell(0, 0, 0);
    return x;
  }

  private static TentPlain cool(int cells) {
    TentPlain x = plain(cells);
    for (int hour = 0; hour < 24; hour++) x.heat(hour, 0);
    return x;
  }

  private static void going() {
    TentPlain x = plain(0);
    check.due("0", x.go(0), -1);
    check.due("121", x.go(121), -1);
    check.due("below", x.go(-1), -1);
    for (int i = 0; i < 35; i++) check.due("120", x.go(120), 0);
    check.due("now", x.count(4), 4200);
    check.due("119", x.go(119), 0);
    check.due("two more", x.go(2), -2);
    check.due("wrong ahead of beyond", x.go(121), -1);
    check.due("nothing went by", x.count(4), 4319);
    check.due("the last one", x.go(1), 0);
    check.due("now", x.count(4), 4320);
    check.due("beyond", x.go(1), -2);
    check.due("record of the last", x.record(4319, 2), 0);
    check.due("record of 4320", x.record(4320, 2), -3);
    check.due("texts at the end", x.holds(Check.tell(x, "m=0&h=0&d=3&x=30"), -1, -1), 1);
  }

  private static void records() {
    TentPlain x = plain(2);
    x.way(0, 1, 130);
    x.group(0, 100, 0);
    x.aim(0, 0, 1);
    check.due("none went by", x.record(0, 0), -3);
    check.due("press in them", x.go(3), 100);
    int[][] due = {{0, 0, 100, 0, 0}, {100, 40, 92, 8, 0}, {92, 32 + 20, 83, 8 + 92 * 52 / 500, 0}};
    for (int minute = 0; minute < 3; minute++) {
      for (int what = 0; what < 5; what++) {
        check.due("record " + minute + " " + what, x.record(minute, what), due[minute][what]);
      }
    }
    check.due("not yet", x.record(3, 0), -3);
    check.due("what above", x.record(0, 5), -1);
    check.due("what below", x.record(0, -1), -1);
    check.due("minute below", x.record(-1, 0), -1);
    check.due("minute above", x.record(4321, 0), -1);
    check.due("wrong ahead of not yet", x.record(3, 5), -1);
    x.go(60);
    check.due("fell so far", x.record(62, 3), x.count(7));
    check.due("fainted so far", x.record(62, 4), x.count(8));
    check.due("some did", x.count(8) > 0 ? 1 : 0, 1);
  }

  private static void pusheds() {
    TentPlain x = plain(2);
    x.way(0, 1, 130);
    x.group(0, 100, 0);
    x.aim(0, 5, 1);
    check.due("none went by", x.pushed(0, 0), -4);
    x.go(20);
    check.due("0 or more", x.pushed(0, 0), 0);
    check.due("0 or more from one on", x.pushed(7, 0), 7);
    check.due("40", x.pushed(0, 40), 6);
    check.due("41", x.pushed(0, 41), 7);
    check.due("52", x.pushed(0, 52), 7);
    check.due("1 from one on", x.pushed(7, 1), 7);
    check.due("never", x.pushed(0, 1000), -4);
    check.due("not gone by", x.pushed(20, 0), -4);
    check.due("the last minute", x.pushed(4320, 0), -4);
    check.due("minute above", x.pushed(4321, 0), -1);
    check.due("minute below", x.pushed(-1, 0), -1);
    check.due("n below", x.pushed(0, -1), -1);
  }

  private static void wases() {
    TentPlain x = plain(2);
    for (int i = 0; i < 24; i++) x.way(0, 1, 102);
    x.group(0, 10, 0);
    x.aim(0, 2, 1);
    check.due("not yet", x.was(0, 0), -3);
    x.go(6);
    int[] due = {0, 0, 100, 100, 1, 1};
    for (int minute = 0; minute < 6; minute++) check.due("was " + minute, x.was(0, minute), due[minute]);
    check.due("not yet", x.was(0, 6), -3);
    check.due("4320", x.was(0, 4320), -3);
    check.due("4321", x.was(0, 4321), -1);
    check.due("below", x.was(0, -1), -1);
    x.comes(2, 0);
    check.due("a bus", x.was(1, 0), -1);
    check.due("no body", x.was(2, 0), -1);
    x.group(1, 10, 0);
    check.due("not there yet", x.was(2, 5), -3);
    check.due("not there yet", x.was(2, 6), -3);
    for (int way = 0; way < 23; way++) x.sign(way, 3);
    x.aim(2, 0, 0);
    x.go(1);
    check.due("still not there", x.was(2, 5), -3);
    check.due("on the last way", x.was(2, 6), 123);
  }

  private static void presses() {
    TentPlain x = cool(2);
    x.way(0, 1, 330);
    x.group(0, 50, 0);
    x.group(0, 51, 0);
    x.aim(0, 0, 1);
    x.aim(1, 0, 1);
    check.due("not in the minute of the step", x.go(1), 0);
    check.due("both, cut", x.go(1), 101 / 3);
    check.due("heads now", x.about(0, 7), 101);
    check.due("push of 33", x.about(0, 6), 0);
  }

  /** A WAY under 30 .. 60 takes half of the greatest PUSH that one beside it had, not its own, not one farther off. */
  private static void neighbours() {
    TentPlain x = cool(6);
    x.way(0, 1, 130);
    x.way(2, 1, 130);
    x.way(2, 3, 130);
    x.way(3, 4, 230);
    x.group(0, 100, 0);
    x.aim(0, 0, 1);
    x.group(2, 60, 0);
    x.aim(1, 0, 1);
    x.group(2, 29, 0);
    x.aim(2, 0, 3);
    x.group(3, 100, 0);
    x.aim(3, 0, 4);
    x.way(0, 5, 130);
    x.group(0, 30, 0);
    x.aim(4, 0, 5);
    x.go(2);
    check.due("first push", x.about(0, 6), 40);
    check.due("as they were: 0", x.about(1, 6), 0);
    x.go(1);
    check.due("first push", x.about(0, 6), 52);
    check.due("half of 40", x.about(1, 6), 20);
    check.due("press 29 takes none", x.about(2, 6), 0);
    check.due("press 30 takes half of 40", x.about(4, 6), 20);
    check.due("press 50 beside none", x.about(3, 6), 0);
    x.go(1);
    check.due("half of 52", x.about(1, 6), 26);
    check.due("fell by it", x.body(1, 11), 2 + 58 * 26 / 500);
    check.due("press 29 beside 20", x.about(2, 6), 0);
  }

  private static void pushHalves() {
    TentPlain x = cool(2);
    x.way(0, 1, 130);
    x.group(0, 61, 0);
    x.aim(0, 0, 1);
    x.go(2);
    check.due("61 less 60", x.about(0, 6), 1);
    x.go(1);
    check.due("half of 1, cut", x.about(0, 6), 1);
    TentPlain y = cool(2);
    y.way(0, 1, 130);
    y.group(0, 60, 0);
    y.aim(0, 0, 1);
    y.go(2);
    check.due("60 is not above", y.about(0, 6), 0);
  }

  private static void falls() {
    TentPlain x = cool(2);
    x.way(0, 1, 130);
    x.group(0, 79, 0);
    x.aim(0, 0, 1);
    x.go(2);
    check.due("push 19", x.about(0, 6), 19);
    check.due("none fell", x.body(0, 11), 0);
    x.go(1);
    check.due("push 28", x.about(0, 6), 28);
    check.due("fell, cut", x.body(0, 11), 79 * 28 / 500);
    check.due("so many less", x.body(0, 4), 75);
    TentPlain y = cool(2);
    y.way(0, 1, 130);
    y.group(0, 60, 0);
    y.group(0, 20, 0);
    y.aim(0, 0, 1);
    y.aim(1, 0, 1);
    y.go(2);
    check.due("push 20", y.about(0, 6), 20);
    check.due("of each", y.body(0, 11), 60 * 20 / 500);
    check.due("of each, cut", y.body(1, 11), 0);
    check.due("all", y.count(7), 2);
  }

  private static void walks() {
    TentPlain x = cool(2);
    int[] heads = {39, 40, 79, 80};
    for (int i = 0; i < 4; i++) {
      x.way(0, 1, 130);
      for (int w = 0; w <= i; w++) x.sign(w, w < i ? 3 : 0);
      x.group(0, heads[i], 0);
      x.aim(i, 0, 1);
      x.go(1);
    }
    for (int w = 0; w < 4; w++) x.sign(w, 0);
    int[] before = new int[4];
    for (int i = 0; i < 4; i++) before[i] = x.body(i, 3);
    check.due("all stepped", before[3], 30);
    check.due("minute 4 is even", x.go(1), 80);
    int[] even = {1, 1, 1, 0};
    for (int i = 0; i < 4; i++) check.due("even " + heads[i], before[i] - x.body(i, 3), even[i]);
    for (int i = 0; i < 4; i++) before[i] = x.body(i, 3);
    x.go(1);
    check.due("odd 39", before[0] - x.body(0, 3), 1);
    check.due("odd 40", before[1] - x.body(1, 3), 0);
    check.due("odd 79", before[2] - x.body(2, 3), 0);
  }

  private static void steps() {
    TentPlain x = cool(4);
    x.way(0, 1, 101);
    x.way(1, 2, 101);
    x.way(2, 3, 102);
    x.group(0, 5, 0);
    x.aim(0, 1, 3);
    x.go(1);
    check.due("too early", x.body(0, 1), 0);
    int[] due = {100, 101, 102, 102, 3};
    x.go(5);
    for (int i = 0; i < 5; i++) check.due("was " + (i + 1), x.was(0, 1 + i), due[i]);
    x.go(10);
    check.due("stays", x.body(0, 1), 3);
    x.aim(0, 2, 0);
    x.sign(1, 1);
    x.go(10);
    check.due("no way leads back", x.body(0, 1), 3);
    x.sign(1, 0);
    x.go(4);
    check.due("back from b to a", x.body(0, 2), 0);
    x.go(1);
    check.due("back", x.body(0, 1), 0);
  }

  private static void rooms() {
    TentPlain x = cool(2);
    x.way(0, 1, 102);
    x.way(0, 1, 202);
    x.way(0, 1, 6001);
    x.sign(2, 2);
    x.group(0, 60, 0);
    x.group(0, 41, 0);
    x.group(0, 40, 0);
    for (int g = 0; g < 3; g++) x.aim(g, 0, 1);
    x.go(1);
    check.due("first on the first way", x.body(0, 2), 0);
    check.due("101 are too many, others are not tried", x.body(1, 2), -4);
    check.due("100 are not", x.body(2, 2), 0);
    x.group(1, 100, 0);
    x.aim(3, 0, 0);
    x.go(1);
    check.due("the other way by sign", x.body(3, 2), 2);
  }

  private static void guides() {
    TentPlain x = cool(4);
    x.way(0, 1, 105);
    x.way(1, 3, 105);
    x.way(0, 2, 104);
    x.way(2, 3, 106);
    x.way(0, 3, 111);
    x.group(0, 5, 0);
    x.aim(0, 0, 3);
    x.post(0);
    x.post(2);
    x.post(1);
    int always = Check.tell(x, "0=0");
    x.force(9, always);
    x.force(10, always);
    x.go(1);
    check.due("the first of two least, whatever is shut farther off", x.body(0, 2), 0);
    check.due("shut farther off", x.about(1, 8), 1);
    x.go(20);
    check.due("waits before the shut way", x.body(0, 1), 1);
    x.force(10, -1);
    x.go(6);
    check.due("arrives", x.body(0, 1), 3);
    x.aim(0, 0, 0);
    x.sign(1, 1);
    x.force(8, always);
    x.go(1);
    check.due("back the only least way", x.body(0, 2), 3);
  }

  private static void posts() {
    TentPlain x = cool(2);
    x.way(0, 1, 110);
    x.group(0, 50, 0);
    x.group(0, 20, 0);
    x.aim(0, 0, 1);
    x.aim(1, 2, 1);
    x.post(0);
    int full = Check.tell(x, "p>49&q=0&n+s+l+u+t+w=0");
    x.force(8, full);
    x.go(1);
    check.due("press as it is now", x.about(0, 8), 0);
    x.go(1);
    check.due("shut by press", x.about(0, 8), 1);
    check.due("the press", x.about(0, 5), 50);
    x.go(3);
    check.due("the other waits", x.body(1, 1), 0);
    check.due("on it they go on", x.body(0, 3), 8);
    x.force(8, -1);
    x.go(1);
    check.due("open", x.about(0, 8), 0);
    check.due("the other steps", x.body(1, 2), 0);
    x.post(0);
    int late = Check.tell(x, "m=7");
    x.force(9, late);
    x.go(1);
    check.due("minute 6", x.about(0, 8), 0);
    x.go(1);
    check.due("minute 7, by the second post", x.about(0, 8), 1);
    x.go(1);
    check.due("minute 8", x.about(0, 8), 0);
    x.force(15, Check.tell(x, "0=0"));
    x.go(1);
    check.due("no eighth post", x.about(0, 8), 0);
  }

  private static void aims() {
    TentPlain x = cool(3);
    x.way(0, 1, 101);
    x.way(0, 2, 101);
    x.group(0, 5, 0);
    x.aim(0, 0, 1);
    x.aim(0, 5, 1);
    x.aim(0, 5, 2);
    x.go(5);
    check.due("the first", x.body(0, 1), 1);
    x.go(1);
    check.due("the last of one minute", x.body(0, 2), 0);
    x.go(2);
    check.due("there", x.body(0, 1), 2);
    x.unaim(0);
    x.go(3);
    check.due("stays", x.body(0, 1), 2);
  }

  private static void standing() {
    TentPlain x = new TentPlain();
    x.cell(1, 0, 0);
    x.cell(2, 0, 0);
    for (int hour = 0; hour < 24; hour++) x.heat(hour, 0);
    x.group(0, 5, 0);
    x.group(1, 5, 0);
    Check.go(x, 720);
    check.due("before 12", x.body(0, 9), 0);
    x.go(1);
    check.due("minute 720", x.body(0, 9), 1);
    Check.go(x, 359);
    check.due("six hours", x.body(0, 9), 360);
    Check.go(x, 1000);
    check.due("none between", x.body(0, 9), 360);
    Check.go(x, 100);
    check.due("the next day", x.body(0, 9), 380);
    check.due("not by a wall", x.body(1, 9), 0);
    check.due("nor thrown on a hill", x.body(0, 10), 0);
  }

  private static void throwing() {
    TentPlain x = new TentPlain();
    x.cell(2, 0, 0);
    for (int hour = 0; hour < 24; hour++) x.heat(hour, 0);
    x.group(0, 5, 0);
    x.go(1);
    check.due("minute 0", x.body(0, 10), 1);
    x.go(59);
    check.due("none between", x.body(0, 10), 1);
    x.go(1);
    check.due("minute 60", x.body(0, 10), 2);
    Check.go(x, 300);
    check.due("seven", x.body(0, 10), 7);
    Check.go(x, 1440 - 361);
    check.due("seven a day", x.body(0, 10), 7);
    x.go(1);
    check.due("the next day", x.body(0, 10), 8);
    Check.go(x, 1439);
    check.due("seven a day", x.body(0, 10), 14);
  }

  private static void suns() {
    TentPlain x = new TentPlain();
    x.cell(0, 4, 0);
    x.cell(0, 9, 0);
    x.cell(0, 0, 0);
    x.way(2, 0, 110);
    x.heat(0, 26);
    x.heat(1, 40);
    x.group(0, 5, 0);
    x.group(1, 5, 0);
    x.group(2, 5, 0);
    x.aim(2, 0, 0);
    x.go(3);
    check.due("less 3 times shade", x.body(0, 8), 3 * 14);
    check.due("0 at least", x.body(1, 8), 0);
    check.due("no shade on a way", x.body(2, 8), 3 * 26);
    x.go(57);
    check.due("by the hour", x.body(0, 8), 60 * 14);
    x.go(1);
    check.due("the next hour", x.body(0, 8), 60 * 14 + 28);
  }

  private static void drinks() {
    TentPlain x = new TentPlain();
    x.cell(0, 0, 150);
    x.cell(0, 9, 50);
    x.group(0, 100, 0);
    x.group(0, 70, 0);
    x.group(1, 20, 0);
    x.go(1);
    check.due("all drink", x.body(0, 8), 0);
    check.due("what there is", x.body(1, 8), 30 - 30 * 50 / 70);
    check.due("with sun 0, too", x.count(11), 30);
    x.go(29);
    check.due("between", x.body(0, 8), 29 * 30);
    check.due("nobody drank", x.count(11), 30);
    x.water(0, 99);
    x.go(1);
    check.due("not enough for the first", x.body(0, 8), 900 - 900 * 99 / 100);
    check.due("nothing for the second", x.body(1, 8), 9 + 900);
    check.due("in the other cell", x.count(11), 10);
  }

  private static void faints() {
    TentPlain x = new TentPlain();
    x.cell(0, 0, 0);
    x.group(0, 120, 0);
    x.group(0, 1, 0);
    x.go(50);
    check.due("1500 is not above", x.body(0, 12), 0);
    check.due("sun", x.body(0, 8), 1500);
    x.go(1);
    check.due("heads by 50 and 1", x.body(0, 12), 3);
    check.due("so many less", x.body(0, 4), 117);
    check.due("sun then", x.body(0, 8), 1000);
    check.due("no more than heads", x.body(1, 4), 0);
    check.due("the last one", x.body(1, 12), 1);
    x.go(100);
    check.due("no heads, no sun", x.body(1, 8), 1000);
    check.due("no more faint", x.body(1, 12), 1);
    x.cell(0, 0, 0);
    x.way(0, 1, 103);
    x.aim(1, 0, 1);
    x.go(1);
    check.due("no heads, no step", x.body(1, 1), 0);
  }
}
