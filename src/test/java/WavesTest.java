/** Promises 33 to 39: WAVES, ROUNDS, CHANGES. */
public final class WavesTest {
  private static final Check check = new Check("WavesTest");

  public static void main(String[] args) {
    waves();
    firstOnes();
    anyWaves();
    rounds();
    judges();
    anyRounds();
    worsts();
    bests();
    check.end();
  }

  private static TentPlain station() {
    TentPlain x = new TentPlain();
    x.cell(3, 0, 0);
    x.cell(0, 0, 0);
    return x;
  }

  private static void waves() {
    TentPlain x = station();
    x.way(0, 1, 110);
    check.due("no cell", x.wave(2, 1), -1);
    check.due("rides 0", x.wave(0, 0), -1);
    check.due("rides 3", x.wave(0, 3), -1);
    check.due("no station", x.wave(1, 1), -3);
    check.due("wrong ahead of it", x.wave(1, 3), -1);
    check.due("nobody", x.wave(0, 1), 0);
    x.group(0, 50, 0);
    x.group(1, 50, 0);
    check.due("nothing goes", x.wave(0, 2), 0);
    check.due("no ride", x.rides(0, 2), -4);
    check.due("in no station", x.rides(1, 1), -3);
    check.due("rides 0", x.rides(0, 0), -1);
    check.due("rides 3", x.rides(1, 3), -1);
    x.comes(2, 0);
    x.comes(5, 0);
    check.due("a bus full", x.wave(0, 1), 50);
    check.due("its ride", x.rides(0, 1), 20);
    check.due("no group", x.rides(2, 1), -1);
    check.due("no body", x.rides(4, 1), -1);
    x.group(0, 50, 0);
    check.due("the first group first", x.rides(4, 1), -4);
    check.due("two rides", x.wave(0, 2), 100);
    check.due("the second ride", x.rides(4, 2), 21);
    x.group(0, 51, 0);
    check.due("too many for a bus", x.wave(0, 2), 100);
    x.comes(3, 0);
    check.due("on the train", x.rides(5, 2), 60);
    check.due("all", x.wave(0, 1), 151);
    check.due("least ride of the first", x.rides(0, 1), 20);
    x.aim(0, 0, 1);
    x.go(1);
    check.due("on a way", x.rides(0, 1), -3);
    check.due("without it", x.wave(0, 1), 101);
  }

  private static void firstOnes() {
    TentPlain x = station();
    for (int hour = 0; hour < 24; hour++) x.heat(hour, 60);
    x.group(0, 1, 0);
    x.go(30);
    check.due("without heads", x.body(0, 4), 0);
    for (int i = 1; i <= 7; i++) x.group(0, 10, 0);
    x.comes(5, 0);
    x.comes(3, 1);
    for (int i = 0; i < 4; i++) x.comes(2, 0);
    check.due("six groups with heads", x.wave(0, 1), 60);
    check.due("without heads", x.rides(0, 1), -4);
    check.due("the sixth, behind five of ten", x.rides(6, 1), 110);
    check.due("the seventh", x.rides(7, 1), -4);
    TentPlain y = station();
    for (int i = 0; i < 4; i++) y.group(0, 50, 0);
    for (int i = 0; i < 4; i++) y.comes(2, 0);
    check.due("three vehicles", y.wave(0, 1), 150);
    check.due("the last of them", y.rides(2, 1), 60);
    check.due("none left", y.rides(3, 1), -4);
  }

  /** All there are, in order: an oracle that shares nothing with the class. */
  private static int[] bestWave(int[] heads, int[] seats, int rides) {
    int all = seats.length * rides;
    int[] chosen = new int[heads.length];
    int[] best = null;
    int most = -1;
    while (true) {
      int[] load = new int[all + 1];
      int gone = 0;
      boolean fits = true;
      for (int i = 0; i < heads.length; i++) {
        load[chosen[i]] += heads[i];
        if (chosen[i] < all) {
          gone += heads[i];
          fits &= load[chosen[i]] <= seats[chosen[i] / rides];
        }
      }
      if (fits && gone > most) {
        most = gone;
        best = chosen.clone();
      }
      int i = heads.length - 1;
      while (i >= 0 && chosen[i] == all) chosen[i--] = 0;
      if (i < 0) break;
      chosen[i]++;
    }
    int[] answer = new int[heads.length + 1];
    for (int i = 0; i < heads.length; i++) answer[i] = best[i];
    answer[heads.length] = most;
    return answer;
  }

  private static void anyWaves() {
    Dice dice = new Dice(3);
    for (int turn = 0; turn < 300; turn++) {
      TentPlain x = station();
      int[] heads = new int[dice.below(7)];
      int[] seats = new int[dice.below(4)];
      int most = dice.oneIn(3) ? 400 : dice.oneIn(2) ? 60 : 30;
      boolean ahead = dice.oneIn(2);
      int first = ahead ? seats.length : 0;
      int firstVehicle = ahead ? 0 : heads.length;
      for (int i = 0; !ahead && i < heads.length; i++) x.group(0, heads[i] = dice.from(1, most), 0);
      for (int v = 0; v < seats.length; v++) {
        seats[v] = dice.oneIn(4) ? 300 : 50;
        x.comes(seats[v] == 50 ? 2 : 3, 0);
      }
      for (int i = 0; ahead && i < heads.length; i++) x.group(0, heads[i] = dice.from(1, most), 0);
      for (int rides = 1; rides <= 2; rides++) {
        int[] due = bestWave(heads, seats, rides);
        check.due("wave " + turn, x.wave(0, rides), due[heads.length]);
        for (int i = 0; i < heads.length; i++) {
          int ride = due[i] == seats.length * rides ? -4 : 10 * (firstVehicle + due[i] / rides) + due[i] % rides;
          check.due("ride of " + i + " in wave " + turn, x.rides(first + i, rides), ride);
        }
      }
    }
  }

  private static void rounds() {
    TentPlain x = station();
    check.due("no groups", x.round(1, 10), -1);
    x.group(0, 10, 0);
    x.comes(2, 0);
    x.group(0, 10, 0);
    x.group(0, 10, 0);
    for (int i = 0; i < 3; i++) x.group(0, 10, 0);
    check.due("k 0", x.round(0, 10), -1);
    check.due("k 6", x.round(6, 10), -1);
    check.due("gate 0", x.round(1, 0), -1);
    check.due("gate 2001", x.round(1, 2001), -1);
    check.due("gate 2000", x.round(5, 2000), 0);
    check.due("one", x.round(1, 10), 0);
    check.due("one too many", x.round(1, 9), -4);
    check.due("one late into the next", x.round(2, 10), 2);
    check.due("two slots off", x.slot(2, 10, 1), 2);
    check.due("the last slot late", x.round(3, 10), 4);
    check.due("no slots left", x.round(4, 10), -4);
    check.due("slot of none", x.slot(4, 10, 0), -4);
    check.due("20 at once", x.round(5, 20), 3);
    int[] due = {0, 0, 1, 2, 3};
    for (int i = 0; i < 5; i++) check.due("slot " + i, x.slot(5, 20, i), due[i]);
    check.due("each of its own k and gate", x.slot(2, 10, 1), 2);
    check.due("each of its own k and gate", x.slot(2, 20, 1), 0);
    check.due("i below", x.slot(5, 20, -1), -1);
    check.due("i above", x.slot(5, 20, 5), -1);
    check.due("k above", x.slot(6, 20, 0), -1);
    check.due("gate above", x.slot(5, 2001, 0), -1);
    TentPlain y = station();
    y.group(0, 10, 0);
    check.due("fewer groups", y.round(2, 10), -1);
    check.due("fewer groups", y.slot(2, 10, 0), -1);
    check.due("gate 1", y.round(1, 1), -4);
    y = station();
    y.group(0, 1, 0);
    check.due("gate 1", y.round(1, 1), 0);
  }

  private static void judges() {
    TentPlain x = station();
    for (int i = 0; i < 4; i++) x.group(0, 10, 0);
    check.due("nothing", x.judge(0, 10), -11);
    x.keep(0, 1, 0);
    check.due("a body", x.judge(0, 10), -12);
    x.row(0, 2, 2);
    check.due("ints", x.judge(0, 10), -12);
    x.row(0, 0, 0);
    check.due("empty", x.judge(0, 10), -13);
    x.row(0, 0, 5);
    check.due("more than groups", x.judge(0, 10), -13);
    check.due("gate 0", x.judge(0, 0), -1);
    check.due("gate 2001", x.judge(1, 2001), -1);
    check.due("no shelf", x.judge(8, 10), -1);
    x.row(0, 0, 4);
    check.due("all in slot 0", x.judge(0, 40), -4);
    check.due("too many", x.judge(0, 39), 100);
    x.put(0, 1, -1);
    check.due("no slot", x.judge(0, 10), 1);
    x.put(0, 1, 6);
    check.due("no slot", x.judge(0, 10), 1);
    x.put(0, 1, 5);
    x.put(0, 2, 4);
    x.put(0, 3, 2);
    check.due("late into 5", x.judge(0, 10), 105);
    check.due("not with 20", x.judge(0, 20), -4);
    x.row(0, 0, 1);
    x.put(0, 0, 5);
    check.due("late in slot 5 comes in none", x.judge(0, 10), -4);
  }

  private static int tooMany(int[] heads, int[] slots, int gate) {
    int first = 99;
    for (int late = -1; late < heads.length; late++) {
      int[] come = new int[7];
      for (int i = 0; i < heads.length; i++) come[slots[i] + (i == late ? 1 : 0)] += heads[i];
      for (int s = 5; s >= 0; s--) {
        if (come[s] > gate) first = Math.min(first, s);
      }
    }
    return first;
  }

  private static int[] bestRound(int[] heads, int gate) {
    int[] slots = new int[heads.length];
    int[] best = null;
    int least = 99;
    while (true) {
      int top = 0;
      for (int s : slots) top = Math.max(top, s);
      if (top < least && tooMany(heads, slots, gate) == 99) {
        least = top;
        best = slots.clone();
      }
      int i = heads.length - 1;
      while (i >= 0 && slots[i] == 5) slots[i--] = 0;
      if (i < 0) return best;
      slots[i]++;
    }
  }

  private static void anyRounds() {
    Dice dice = new Dice(4);
    for (int turn = 0; turn < 400; turn++) {
      TentPlain x = station();
      int k = dice.from(1, 5);
      int[] heads = new int[k];
      int most = dice.oneIn(2) ? 400 : 20;
      for (int i = 0; i < k; i++) {
        if (dice.oneIn(3)) x.comes(2, 0);
        x.group(0, heads[i] = dice.from(1, most), 0);
      }
      int gate = dice.from(most / 2, most * 3);
      int[] best = bestRound(heads, gate);
      int top = -4;
      for (int i = 0; best != null && i < k; i++) top = Math.max(top, best[i]);
      check.due("round " + turn, x.round(k, gate), top);
      for (int i = 0; i < k; i++) check.due("slot of round " + turn, x.slot(k, gate, i), best == null ? -4 : best[i]);
      int[] slots = new int[k];
      x.row(0, 0, k);
      for (int i = 0; i < k; i++) x.put(0, i, slots[i] = dice.below(6));
      int over = tooMany(heads, slots, gate);
      check.due("judge of round " + turn, x.judge(0, gate), over == 99 ? -4 : 100 + over);
    }
  }

  private static TentPlain crossing() {
    TentPlain x = new TentPlain();
    for (int i = 0; i < 3; i++) x.cell(0, 9, 0);
    x.way(0, 1, 110);
    x.way(0, 2, 305);
    x.way(2, 1, 205);
    x.group(0, 90, 0);
    x.aim(0, 0, 1);
    return x;
  }

  private static void worsts() {
    TentPlain x = crossing();
    check.due("as it is", x.worst(-1, 0, 20), 90);
    check.due("the sign does not matter", x.worst(-1, 3, 20), 90);
    check.due("but is one", x.worst(-1, 4, 20), -1);
    check.due("sign below", x.worst(0, -1, 20), -1);
    check.due("no way", x.worst(3, 0, 20), -1);
    check.due("way below", x.worst(-2, 0, 20), -1);
    check.due("n 0", x.worst(0, 0, 0), -1);
    check.due("n 121", x.worst(0, 0, 121), -1);
    check.due("one minute", x.worst(-1, 0, 1), 0);
    check.due("round about", x.worst(0, 3, 20), 45);
    check.due("not so far", x.worst(0, 3, 5), 30);
    check.due("nowhere", x.worst(0, 2, 5), 30);
    for (int what = 0; what <= 12; what++) {
      check.due("in mind alone " + what, x.count(what), crossing().count(what));
    }
    check.due("no record", x.record(0, 0), -3);
    check.due("no sign", x.about(0, 4), 0);
    check.due("no step", x.body(0, 1), 0);
    check.due("no image", x.restore(), -3);
    check.due("as in mind", x.go(20), 90);
    Check.go(x, 4320 - 20 - 10);
    check.due("the last ten", x.worst(0, 0, 10), 0);
    check.due("best of the last ten", x.best(10), 0);
    check.due("beyond", x.worst(0, 0, 11), -2);
    check.due("wrong ahead of beyond", x.worst(0, 4, 11), -1);
    check.due("best beyond", x.best(11), -2);
  }

  private static void bests() {
    TentPlain x = new TentPlain();
    check.due("no way", x.best(5), -4);
    check.due("n 0", x.best(0), -1);
    check.due("n 121", x.best(121), -1);
    Check.go(x, 4320);
    check.due("beyond ahead of no way", x.best(1), -2);
    TentPlain y = crossing();
    check.due("first of several: shut from 0 to 1", y.best(20), 2);
    check.due("nothing changed", y.about(0, 4), 0);
    y.sign(0, 2);
    check.due("shutting the way round keeps them here", y.best(20), 12);
    TentPlain z = crossing();
    check.due("one minute: those that change nothing too", z.best(1), 0);
    TentPlain w = new TentPlain();
    for (int i = 0; i < 10; i++) w.cell(0, 0, 0);
    for (int i = 0; i < 9; i++) w.way(0, i + 1, 105);
    w.group(0, 50, 0);
    w.aim(0, 0, 9);
    check.due("way 8 is no change", w.best(20), 0);
    w.unaim(0);
    w.aim(0, 0, 8);
    check.due("way 7 is", w.best(20), 72);
  }
}
