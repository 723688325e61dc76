/** No call throws but element(), whatever it is given in whatever state; a refused call changes nothing. */
public final class AnyArgumentsTest {
  private static final Check check = new Check("AnyArgumentsTest");
  private static final int[] FAR_OFF = {Integer.MIN_VALUE, Integer.MAX_VALUE, -1, -100, 65536, 1 << 30, 4320, 4321, 100};

  public static void main(String[] args) {
    for (int game = 0; game < 400; game++) play(new Dice(7000 + game), game);
    check.end();
  }

  private static int any(Dice dice, int least, int most) {
    if (dice.oneIn(30)) return FAR_OFF[dice.below(FAR_OFF.length)];
    if (dice.oneIn(20)) return dice.oneIn(2) ? least - 1 : most + 1;
    return dice.from(least, most);
  }

  private static void play(Dice dice, int game) {
    TentPlain x = new TentPlain();
    for (int i = dice.below(8); i > 0; i--) x.cell(dice.below(4), dice.below(10), dice.below(99999));
    for (int i = dice.below(12); i > 0; i--) x.way(dice.below(8), dice.below(8), 100 * dice.from(1, 5) + dice.from(1, 9));
    for (int i = dice.below(12); i > 0; i--) x.group(dice.below(8), dice.from(1, 120), 10 * dice.below(2) + dice.below(4));
    int calls = 512 - 36;
    for (int i = 0; i < calls; i++) {
      int call = dice.below(49);
      long before = sum(x);
      long answer;
      try {
        answer = ask(x, dice, call);
      } catch (RuntimeException e) {
        check.due("game " + game + " call " + call + " throws " + e, 1, 0);
        return;
      }
      if (answer < 0) check.due("game " + game + " call " + call + " refused changes nothing", sum(x), before);
    }
  }

  private static long sum(TentPlain x) {
    long sum = 0;
    for (int what = 0; what <= 12; what++) sum = 31 * sum + x.count(what);
    for (int b = 0; b < x.count(2); b++) {
      for (int what = 0; what < 14; what++) sum = 31 * sum + x.body(b, what);
    }
    for (int w = 0; w < x.count(1); w++) {
      for (int what = 0; what < 9; what++) sum = 31 * sum + x.about(w, what);
    }
    for (int d = 0; d < 8; d++) sum = 31 * sum + 7 * x.weight(d) + x.toss(d);
    return sum;
  }

  private static String anyText(Dice dice) {
    String[] texts = {"p>20", "h<5|p+q>9", "!(s=1)&n>3", "m-l<99", "t+w>2|u>90", "x=30", "d=0&h", "((p<1))", "0=0", "(m<"};
    return texts[dice.below(texts.length)];
  }

  private static int shelf(Dice dice) {
    return any(dice, 0, 7);
  }

  private static int body(Dice dice) {
    return any(dice, 0, 25);
  }

  private static long ask(TentPlain x, Dice dice, int call) {
    int cell = any(dice, 0, 8);
    int way = any(dice, -1, 12);
    int sign = any(dice, 0, 3);
    int minute = any(dice, 0, x.count(4) + 5);
    switch (call) {
      case 0: return x.cell(any(dice, 0, 3), any(dice, 0, 9), any(dice, 0, 99999));
      case 1: return x.way(cell, any(dice, 0, 8), any(dice, 101, 630));
      case 2: return Math.max(0, x.sign(way, sign));
      case 3: return x.heat(any(dice, 0, 23), any(dice, 0, 60));
      case 4: return x.water(cell, any(dice, 1, 20000));
      case 5: return x.about(way, any(dice, 0, 8));
      case 6: return x.far(cell, any(dice, 0, 8));
      case 7: return x.group(cell, any(dice, 1, 400), any(dice, 0, 53));
      case 8: return x.stray(cell, any(dice, 0, 1), any(dice, 0, 110), any(dice, -1, 9));
      case 9: return x.comes(any(dice, 2, 5), cell);
      case 10: return x.post(way);
      case 11: return x.aim(any(dice, 0, 12), minute, cell);
      case 12: return x.unaim(body(dice));
      case 13: return x.body(body(dice), any(dice, 0, 13));
      case 14: return x.fault(shelf(dice));
      case 15: return tellAny(x, dice);
      case 16: return Math.max(0, x.force(any(dice, 0, 15), any(dice, -1, 5)));
      case 17: return x.holds(any(dice, 0, 5), way, any(dice, -1, 12));
      case 18: return x.stands(body(dice), any(dice, 0, 1), any(dice, 0, 3));
      case 19: return x.schools(body(dice), any(dice, 0, 1));
      case 20: return x.go(any(dice, 1, 60));
      case 21: return x.record(minute, any(dice, 0, 4));
      case 22: return x.pushed(minute, any(dice, 0, 90));
      case 23: return x.was(body(dice), minute);
      case 24: return Math.max(-99, x.whose(body(dice)));
      case 25: return x.sure(body(dice));
      case 26: return x.bring(body(dice), body(dice));
      case 27: return x.found(body(dice), body(dice));
      case 28: return x.carry(body(dice), body(dice));
      case 29: return x.wrong(shelf(dice));
      case 30: return x.closes(shelf(dice), cell);
      case 31: return x.wave(cell, any(dice, 1, 2));
      case 32: return x.rides(body(dice), any(dice, 1, 2));
      case 33: return x.round(any(dice, 1, 5), any(dice, 1, 2000));
      case 34: return x.slot(any(dice, 1, 5), any(dice, 1, 600), any(dice, 0, 4));
      case 35: return x.judge(shelf(dice), any(dice, 1, 600));
      case 36: return x.worst(way, sign, any(dice, 1, 40));
      case 37: return dice.oneIn(4) ? x.best(any(dice, 1, 40)) : 0;
      case 38: return x.image();
      case 39: return dice.oneIn(5) ? x.restore() : 0;
      case 40: return x.count(any(dice, 0, 12));
      case 41: return x.keep(shelf(dice), any(dice, 0, 1), body(dice));
      case 42: return x.row(shelf(dice), any(dice, 0, 2), any(dice, 0, 80));
      case 43: return x.put(shelf(dice), any(dice, 0, 79), dice.below(200) - 50);
      case 44: return element(x, shelf(dice), any(dice, 0, 79));
      case 45: return x.copy(shelf(dice), any(dice, 0, 9), shelf(dice), any(dice, 0, 9), any(dice, 0, 20));
      case 46: return x.weight(shelf(dice));
      case 47: return x.toss(shelf(dice));
      default: return x.row(dice.below(8), 2, Math.max(0, x.count(1)));
    }
  }

  private static int tellAny(TentPlain x, Dice dice) {
    if (dice.oneIn(4)) return x.text(shelf(dice));
    Check.tell(x, anyText(dice));
    return 0;
  }

  private static long element(TentPlain x, int d, int i) {
    try {
      return x.element(d, i);
    } catch (IllegalArgumentException | IllegalStateException e) {
      return 0;
    }
  }
}
