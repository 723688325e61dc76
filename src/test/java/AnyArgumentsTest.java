import java.util.ArrayList;
import java.util.List;

/**
 * No call throws but element(), whatever it is given in whatever state. A refused call changes nothing: a game that is
 * played again without the calls that were refused is answered the same.
 */
public final class AnyArgumentsTest {
  private static final Check check = new Check("AnyArgumentsTest");
  private static final int MOST_CALLS = 512;
  private static final int FORCE = 16;
  private static final int[] FAR_OFF = {Integer.MIN_VALUE, Integer.MAX_VALUE, -1, -100, 65536, 1 << 30, 4320, 4321, 100};
  private static final String[] TEXTS =
      {"p>20", "h<5|p+q>9", "!(s=1)&n>3", "m-l<99", "t+w>2|u>90", "x=30", "d=0&h", "((p<1))", "0=0", "(m<"};

  public static void main(String[] args) {
    for (int game = 0; game < 1500; game++) play(calls(new Dice(7000 + game)), game);
    check.end();
  }

  private static void play(List<int[]> calls, int game) {
    TentPlain x = new TentPlain();
    TentPlain without = new TentPlain();
    for (int i = 0; i < calls.size(); i++) {
      int[] c = calls.get(i);
      String name = "game " + game + " call " + i + " of kind " + c[0];
      try {
        long answer = ask(x, c);
        boolean refused = answer < 0 && !(c[0] == FORCE && answer == -4);
        if (!refused) check.due(name + " without those refused", ask(without, c), answer);
      } catch (RuntimeException e) {
        check.due(name + " throws " + e, 1, 0);
        return;
      }
    }
  }

  private static List<int[]> calls(Dice dice) {
    List<int[]> calls = new ArrayList<>();
    for (int i = dice.below(8); i > 0; i--) calls.add(new int[] {0, dice.below(4), dice.below(10), dice.below(99999)});
    for (int i = dice.below(12); i > 0; i--) {
      calls.add(new int[] {1, dice.below(8), dice.below(8), 100 * dice.from(1, 5) + dice.from(1, 9)});
    }
    for (int i = dice.below(12); i > 0; i--) {
      calls.add(new int[] {7, dice.below(8), dice.from(1, 120), 10 * dice.below(2) + dice.below(4)});
    }
    while (calls.size() < MOST_CALLS) {
      if (dice.oneIn(40)) tell(calls, TEXTS[dice.below(TEXTS.length)]);
      else calls.add(any(dice, dice.below(49)));
    }
    return calls.subList(0, MOST_CALLS);
  }

  private static void tell(List<int[]> calls, String text) {
    calls.add(new int[] {42, 7, 0, text.length()});
    for (int i = 0; i < text.length(); i++) calls.add(new int[] {43, 7, i, text.charAt(i)});
    calls.add(new int[] {15, 7});
  }

  private static int any(Dice dice, int least, int most) {
    if (dice.oneIn(30)) return FAR_OFF[dice.below(FAR_OFF.length)];
    if (dice.oneIn(20)) return dice.oneIn(2) ? least - 1 : most + 1;
    return dice.from(least, most);
  }

  private static int[] any(Dice dice, int call) {
    int cell = any(dice, 0, 8);
    int way = any(dice, -1, 12);
    int sign = any(dice, 0, 3);
    int minute = any(dice, 0, 200);
    int body = any(dice, 0, 25);
    int shelf = any(dice, 0, 7);
    int rides = any(dice, 1, 2);
    switch (call) {
      case 0: return new int[] {call, any(dice, 0, 3), any(dice, 0, 9), any(dice, 0, 99999)};
      case 1: return new int[] {call, cell, any(dice, 0, 8), any(dice, 101, 630)};
      case 2: return new int[] {call, way, sign};
      case 3: return new int[] {call, any(dice, 0, 23), any(dice, 0, 60)};
      case 4: return new int[] {call, cell, any(dice, 1, 20000)};
      case 5: return new int[] {call, way, any(dice, 0, 8)};
      case 6: return new int[] {call, cell, any(dice, 0, 8)};
      case 7: return new int[] {call, cell, any(dice, 1, 400), any(dice, 0, 53)};
      case 8: return new int[] {call, cell, any(dice, 0, 1), any(dice, 0, 110), any(dice, -1, 9)};
      case 9: return new int[] {call, any(dice, 2, 5), cell};
      case 10: return new int[] {call, way};
      case 11: return new int[] {call, any(dice, 0, 12), minute, cell};
      case 13: return new int[] {call, body, any(dice, 0, 13)};
      case 14: case 15: case 29: case 46: case 47: return new int[] {call, shelf};
      case FORCE: return new int[] {call, any(dice, 0, 15), any(dice, -1, 5)};
      case 17: return new int[] {call, any(dice, 0, 5), way, any(dice, -1, 12)};
      case 18: return new int[] {call, body, any(dice, 0, 1), any(dice, 0, 3)};
      case 19: return new int[] {call, body, any(dice, 0, 1)};
      case 20: return new int[] {call, any(dice, 1, dice.oneIn(4) ? 120 : 20)};
      case 21: return new int[] {call, minute, any(dice, 0, 4)};
      case 22: return new int[] {call, minute, any(dice, 0, 90)};
      case 23: return new int[] {call, body, minute};
      case 26: case 27: case 28: return new int[] {call, body, any(dice, 0, 25)};
      case 30: return new int[] {call, shelf, cell};
      case 31: return new int[] {call, cell, rides};
      case 32: return new int[] {call, body, rides};
      case 33: return new int[] {call, any(dice, 1, 5), any(dice, 1, 2000)};
      case 34: return new int[] {call, any(dice, 1, 5), any(dice, 1, 600), any(dice, 0, 4)};
      case 35: return new int[] {call, shelf, any(dice, 1, 600)};
      case 36: return new int[] {call, way, sign, any(dice, 1, 40)};
      case 37: return new int[] {dice.oneIn(4) ? call : 40, any(dice, 1, 20)};
      case 39: return new int[] {dice.oneIn(5) ? call : 40, 2};
      case 40: return new int[] {call, any(dice, 0, 12)};
      case 41: return new int[] {call, shelf, any(dice, 0, 1), body};
      case 42: return new int[] {call, shelf, any(dice, 0, 2), dice.oneIn(2) ? any(dice, 0, 80) : any(dice, 0, 12)};
      case 43: return new int[] {call, shelf, any(dice, 0, dice.oneIn(2) ? 79 : 5), dice.below(200) - 50};
      case 44: return new int[] {call, shelf, any(dice, 0, dice.oneIn(2) ? 79 : 5)};
      case 45: return new int[] {call, shelf, any(dice, 0, 9), any(dice, 0, 7), any(dice, 0, 9), any(dice, 0, 20)};
      case 48: return new int[] {42, shelf, 2, any(dice, 0, 12)};
      default: return new int[] {call, body};
    }
  }

  private static long ask(TentPlain x, int[] c) {
    switch (c[0]) {
      case 0: return x.cell(c[1], c[2], c[3]);
      case 1: return x.way(c[1], c[2], c[3]);
      case 2: return x.sign(c[1], c[2]);
      case 3: return x.heat(c[1], c[2]);
      case 4: return x.water(c[1], c[2]);
      case 5: return x.about(c[1], c[2]);
      case 6: return x.far(c[1], c[2]);
      case 7: return x.group(c[1], c[2], c[3]);
      case 8: return x.stray(c[1], c[2], c[3], c[4]);
      case 9: return x.comes(c[1], c[2]);
      case 10: return x.post(c[1]);
      case 11: return x.aim(c[1], c[2], c[3]);
      case 12: return x.unaim(c[1]);
      case 13: return x.body(c[1], c[2]);
      case 14: return x.fault(c[1]);
      case 15: return x.text(c[1]);
      case FORCE: return x.force(c[1], c[2]);
      case 17: return x.holds(c[1], c[2], c[3]);
      case 18: return x.stands(c[1], c[2], c[3]);
      case 19: return x.schools(c[1], c[2]);
      case 20: return x.go(c[1]);
      case 21: return x.record(c[1], c[2]);
      case 22: return x.pushed(c[1], c[2]);
      case 23: return x.was(c[1], c[2]);
      case 24: return x.whose(c[1]);
      case 25: return x.sure(c[1]);
      default: return askMore(x, c);
    }
  }

  private static long askMore(TentPlain x, int[] c) {
    switch (c[0]) {
      case 26: return x.bring(c[1], c[2]);
      case 27: return x.found(c[1], c[2]);
      case 28: return x.carry(c[1], c[2]);
      case 29: return x.wrong(c[1]);
      case 30: return x.closes(c[1], c[2]);
      case 31: return x.wave(c[1], c[2]);
      case 32: return x.rides(c[1], c[2]);
      case 33: return x.round(c[1], c[2]);
      case 34: return x.slot(c[1], c[2], c[3]);
      case 35: return x.judge(c[1], c[2]);
      case 36: return x.worst(c[1], c[2], c[3]);
      case 37: return x.best(c[1]);
      case 38: return x.image();
      case 39: return x.restore();
      case 40: return x.count(c[1]);
      case 41: return x.keep(c[1], c[2], c[3]);
      case 42: return x.row(c[1], c[2], c[3]);
      case 43: return x.put(c[1], c[2], c[3]);
      case 44: return element(x, c[1], c[2]);
      case 45: return x.copy(c[1], c[2], c[3], c[4], c[5]);
      case 46: return x.weight(c[1]);
      default: return x.toss(c[1]);
    }
  }

  private static long element(TentPlain x, int d, int i) {
    try {
      return x.element(d, i);
    } catch (IllegalArgumentException | IllegalStateException e) {
      return -1;
    }
  }
}
