/** Promises 26 to 32: STRAYS, LITTERS, COUNTERS. */
public final class StraysTest {
  private static final Check check = new Check("StraysTest");

  public static void main(String[] args) {
    whoses();
    within120();
    later();
    sures();
    brings();
    founds();
    carries();
    counters();
    check.end();
  }

  private static TentPlain plain(int cells) {
    TentPlain x = new TentPlain();
    for (int i = 0; i < cells; i++) x.cell(0, 9, 0);
    for (int hour = 0; hour < 24; hour++) x.heat(hour, 0);
    return x;
  }

  private static void whoses() {
    TentPlain x = plain(2);
    x.group(0, 10, 0);
    x.comes(2, 0);
    x.group(0, 10, 10);
    x.group(1, 10, 0);
    x.group(0, 10, 3);
    x.stray(0, 0, 5, -1);
    x.stray(0, 0, 5, 3);
    check.due("of its tongue in its cell", x.whose(5), 1 | 1 << 4);
    check.due("known or not", x.whose(6), 1 | 1 << 4);
    check.due("no body", x.whose(7), -1);
    check.due("below", x.whose(-1), -1);
    check.due("a group", x.whose(0), -1);
    x.found(5, 4);
    check.due("found", x.whose(5), -3);
  }

  private static void within120() {
    TentPlain x = plain(2);
    x.way(0, 1, 130);
    x.group(0, 10, 0);
    x.stray(0, 0, 5, -1);
    x.aim(0, 5, 1);
    check.due("now", x.whose(1), 1);
    x.go(5);
    check.due("minute 4 is the last in the cell", x.was(0, 4), 0);
    x.go(119);
    check.due("4 + 120 is now", x.count(4), 124);
    check.due("not below now", x.whose(1), 1);
    x.go(1);
    check.due("below now", x.whose(1), 0);
    check.due("sure of none", x.sure(1), -4);
    x.stray(1, 0, 5, -1);
    check.due("in its cell now", x.whose(2), 1);
    x.image();
    x.aim(0, 125, 0);
    x.go(1);
    check.due("on a way", x.whose(2), 1);
    x.go(30);
    check.due("back", x.body(0, 1), 0);
    check.due("now again", x.whose(1), 1);
    x.restore();
    check.due("as it was", x.whose(1), 0);

    TentPlain z = plain(2);
    z.way(0, 1, 130);
    z.group(0, 10, 0);
    z.aim(0, 1, 1);
    z.stray(0, 0, 5, -1);
    z.go(120);
    check.due("minute 0", z.whose(1), 1);
    z.go(1);
    check.due("minute 0 no more", z.whose(1), 0);

    TentPlain y = plain(2);
    y.way(0, 1, 105);
    y.group(0, 10, 0);
    y.aim(0, 0, 1);
    y.stray(0, 0, 5, -1);
    y.go(1);
    check.due("at no minute's end", y.whose(1), 0);
    y.image();
    y.comes(2, 0);
    y.go(3);
    y.group(1, 10, 0);
    y.group(0, 10, 0);
    check.due("of later ones only now", y.whose(1), 1 << 4);
    y.restore();
    y.group(1, 10, 0);
    y.group(1, 10, 0);
    y.stray(0, 0, 5, -1);
    check.due("what went by before they were there is not theirs", y.whose(4), 0);
  }

  private static void later() {
    TentPlain x = plain(1);
    x.stray(0, 0, 5, -1);
    for (int i = 1; i < 30; i++) x.comes(2, 0);
    x.group(0, 10, 0);
    check.due("body 30", x.whose(0), 1 << 30);
    check.due("sure", x.sure(0), 30);
    x.group(0, 10, 0);
    check.due("body 31 left out", x.whose(0), 1 << 30);
    check.due("but not sure", x.sure(0), -4);
    check.due("found by it", x.found(0, 31), 11);
  }

  private static void sures() {
    TentPlain x = plain(2);
    x.group(0, 10, 10);
    x.group(0, 10, 20);
    x.stray(0, 2, 5, 0);
    x.stray(1, 2, 5, -1);
    check.due("one", x.sure(2), 1);
    check.due("none", x.sure(3), -4);
    x.group(0, 10, 21);
    check.due("two", x.sure(2), -4);
    check.due("no body", x.sure(5), -1);
    check.due("a group", x.sure(1), -1);
    x.found(2, 1);
    check.due("known to be of another", x.sure(2), -4);
    x.stray(0, 1, 5, -1);
    check.due("sure", x.sure(5), 0);
    x.found(5, 0);
    check.due("found", x.sure(5), -3);
  }

  private static void brings() {
    TentPlain x = plain(4);
    x.way(0, 1, 105);
    x.way(1, 2, 103);
    x.group(2, 10, 0);
    x.stray(0, 3, 5, -1);
    x.stray(3, 3, 5, -1);
    x.comes(2, 0);
    check.due("minutes", x.bring(1, 0), 8);
    check.due("no way", x.bring(2, 0), -4);
    check.due("no stray", x.bring(0, 0), -1);
    check.due("no group", x.bring(1, 3), -1);
    check.due("no body", x.bring(4, 0), -1);
    check.due("group below", x.bring(1, -1), -1);
    x.aim(0, 0, 0);
    x.go(1);
    check.due("to where it comes out", x.bring(1, 0), 5);
    x.sign(0, 2);
    check.due("as signs let", x.bring(1, 0), -4);
    x.go(3);
    check.due("on the next way", x.body(0, 2), 0);
    check.due("to its own cell", x.bring(1, 0), 0);
    x.go(5);
    x.stray(0, 0, 5, -1);
    x.found(4, 0);
    check.due("found", x.bring(4, 0), -3);
  }

  private static void founds() {
    TentPlain x = plain(2);
    x.group(0, 10, 0);
    x.group(0, 20, 0);
    x.group(1, 30, 0);
    x.stray(0, 0, 5, -1);
    x.stray(0, 0, 5, 1);
    x.stray(0, 0, 5, 2);
    x.comes(2, 0);
    check.due("no stray", x.found(0, 0), -1);
    check.due("no group", x.found(3, 6), -1);
    check.due("no body", x.found(7, 0), -1);
    check.due("can't be", x.found(3, 2), -3);
    check.due("known to be of another", x.found(4, 0), -3);
    check.due("known, but can't be", x.found(5, 2), -3);
    check.due("refused changes nothing", x.count(6), 60);
    check.due("known", x.found(4, 1), 21);
    check.due("not known", x.found(3, 0), 11);
    check.due("twice", x.found(3, 0), -3);
    check.due("no cell", x.body(3, 1), -4);
    check.due("no heads", x.body(3, 4), 0);
    check.due("tongue", x.body(3, 6), 0);
    check.due("age", x.body(3, 7), 5);
    check.due("heads", x.count(6), 62);
    check.due("not found", x.count(10), 1);
  }

  private static void carries() {
    TentPlain x = plain(2);
    x.way(0, 1, 130);
    x.group(0, 100, 0);
    x.comes(5, 0);
    x.comes(5, 1);
    x.comes(2, 0);
    check.due("no litter", x.carry(3, 0), -1);
    check.due("no group", x.carry(1, 1), -1);
    check.due("no body", x.carry(4, 0), -1);
    check.due("group below", x.carry(1, -1), -1);
    check.due("nobody fell", x.carry(1, 0), -3);
    x.aim(0, 0, 1);
    x.go(2);
    check.due("eight fell", x.body(0, 11), 8);
    check.due("on a way", x.carry(1, 0), -3);
    for (int i = 0; i < 30 && x.body(0, 1) != 1; i++) x.go(60);
    int fell = x.body(0, 11);
    check.due("none fainted", x.body(0, 12), 0);
    check.due("in another cell", x.carry(1, 0), -3);
    for (int i = 1; i <= fell; i++) check.due("carried", x.carry(2, 0), i);
    check.due("all are", x.carry(2, 0), -3);
    check.due("body", x.body(0, 13), fell);
    check.due("count", x.count(9), fell);
    for (int hour = 0; hour < 24; hour++) x.heat(hour, 60);
    for (int i = 0; i < 2; i++) x.go(30);
    check.due("of those that fainted, too", x.carry(2, 0), x.body(0, 12) > 0 ? fell + 1 : -3);
    check.due("some did", x.body(0, 12) > 0 ? 1 : 0, 1);
  }

  private static void counters() {
    TentPlain x = plain(4);
    check.due("nothing", x.wrong(0), -11);
    x.row(0, 2, 0);
    check.due("no ways", x.wrong(0), -4);
    check.due("closes", x.closes(0, 3), 1);
    x.way(0, 1, 130);
    x.way(1, 2, 130);
    x.way(0, 2, 130);
    x.group(0, 30, 0);
    x.group(0, 20, 0);
    x.aim(0, 0, 1);
    x.aim(1, 0, 2);
    x.go(1);
    check.due("not one for each", x.wrong(0), -13);
    check.due("not one for each", x.closes(0, 0), -13);
    x.row(0, 2, 4);
    check.due("too many", x.wrong(0), -13);
    x.row(0, 2, 3);
    x.put(0, 0, 30);
    check.due("the least way", x.wrong(0), 2);
    x.put(0, 2, 20);
    check.due("none", x.wrong(0), -4);
    x.put(0, 0, 31);
    x.put(0, 2, 19);
    check.due("wrong", x.wrong(0), 0);
    check.due("together as much", x.closes(0, 0), 1);
    check.due("not here", x.closes(0, 1), 0);
    check.due("nor here", x.closes(0, 2), 0);
    check.due("no way touches", x.closes(0, 3), 1);
    x.put(0, 0, Integer.MAX_VALUE);
    x.put(0, 2, Integer.MAX_VALUE);
    check.due("much more", x.closes(0, 0), 0);
    x.put(0, 0, 30);
    x.put(0, 1, Integer.MIN_VALUE);
    x.put(0, 2, Integer.MIN_VALUE + 20);
    check.due("no wrapping round", x.closes(0, 2), 0);
    check.due("no shelf", x.wrong(8), -1);
    check.due("no shelf", x.closes(-1, 0), -1);
    check.due("no cell", x.closes(0, 4), -1);
    check.due("no cell ahead of nothing held", x.closes(1, 4), -1);
    check.due("nothing", x.closes(1, 0), -11);
    x.keep(1, 1, 0);
    check.due("a body", x.wrong(1), -12);
    check.due("a body", x.closes(1, 0), -12);
    for (int sort = 0; sort < 2; sort++) {
      x.row(1, sort, 3);
      check.due("no ints", x.wrong(1), -12);
      check.due("no ints", x.closes(1, 0), -12);
    }
  }
}
