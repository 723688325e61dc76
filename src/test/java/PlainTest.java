/** Promises 2 to 8: CELLS, WAYS, SIGNS, HEAT, WATER. */
public final class PlainTest {
  private static final Check check = new Check("PlainTest");

  public static void main(String[] args) {
    cells();
    ways();
    signs();
    heats();
    waters();
    abouts();
    fars();
    check.end();
  }

  private static void cells() {
    TentPlain x = new TentPlain();
    check.due("sort below", x.cell(-1, 0, 0), -1);
    check.due("sort above", x.cell(4, 0, 0), -1);
    check.due("shade below", x.cell(0, -1, 0), -1);
    check.due("shade above", x.cell(0, 10, 0), -1);
    check.due("water below", x.cell(0, 0, -1), -1);
    check.due("water above", x.cell(0, 0, 100000), -1);
    check.due("none yet", x.count(0), 0);
    check.due("greatest", x.cell(3, 9, 99999), 0);
    for (int i = 1; i < 16; i++) check.due("cell " + i, x.cell(i % 4, 0, 0), i);
    check.due("no room", x.cell(0, 0, 0), -2);
    check.due("out of range ahead of no room", x.cell(4, 0, 0), -1);
    check.due("count", x.count(0), 16);
  }

  private static void ways() {
    TentPlain x = new TentPlain();
    check.due("no cells", x.way(0, 1, 101), -1);
    x.cell(0, 0, 0);
    x.cell(0, 0, 0);
    check.due("one twice", x.way(1, 1, 101), -1);
    check.due("a below", x.way(-1, 1, 101), -1);
    check.due("b above", x.way(0, 2, 101), -1);
    check.due("width 0", x.way(0, 1, 30), -1);
    check.due("length 0", x.way(0, 1, 100), -1);
    check.due("length 31", x.way(0, 1, 131), -1);
    check.due("width 61", x.way(0, 1, 6101), -1);
    check.due("told below 0", x.way(0, 1, -101), -1);
    check.due("least", x.way(0, 1, 101), 0);
    check.due("greatest", x.way(1, 0, 6030), 1);
    for (int i = 2; i < 24; i++) check.due("way " + i, x.way(0, 1, 101), i);
    check.due("no room", x.way(0, 1, 101), -2);
    check.due("wrong ahead of no room", x.way(0, 0, 101), -1);
    check.due("count", x.count(1), 24);
  }

  private static void signs() {
    TentPlain x = new TentPlain();
    x.cell(0, 0, 0);
    x.cell(0, 0, 0);
    check.due("no way", x.sign(0, 0), -1);
    x.way(0, 1, 101);
    check.due("0 at first", x.sign(0, 3), 0);
    check.due("what it was", x.sign(0, 1), 3);
    check.due("below", x.sign(0, -1), -1);
    check.due("above", x.sign(0, 4), -1);
    check.due("refused changes nothing", x.sign(0, 2), 1);
    check.due("way below", x.sign(-1, 0), -1);
  }

  private static void heats() {
    TentPlain x = new TentPlain();
    check.due("30 at first", x.heat(0, 60), 30);
    check.due("what it was", x.heat(0, 0), 60);
    check.due("hour 23", x.heat(23, 1), 30);
    check.due("hour 24", x.heat(24, 1), -1);
    check.due("hour below", x.heat(-1, 1), -1);
    check.due("61", x.heat(0, 61), -1);
    check.due("below 0", x.heat(0, -1), -1);
    check.due("as it was", x.heat(0, 5), 0);
  }

  private static void waters() {
    TentPlain x = new TentPlain();
    check.due("no cell", x.water(0, 1), -1);
    x.cell(0, 0, 79999);
    check.due("0", x.water(0, 0), -1);
    check.due("20001", x.water(0, 20001), -1);
    check.due("to the brim", x.water(0, 20000), 99999);
    check.due("above", x.water(0, 1), -2);
    check.due("below", x.water(-1, 1), -1);
    check.due("all", x.count(11), 99999);
  }

  private static void abouts() {
    TentPlain x = new TentPlain();
    for (int i = 0; i < 3; i++) x.cell(0, 0, 0);
    x.way(2, 1, 1407);
    int[] due = {2, 1, 14, 7, 0, 0, 0, 0, 0};
    for (int what = 0; what < 9; what++) check.due("about " + what, x.about(0, what), due[what]);
    check.due("what below", x.about(0, -1), -1);
    check.due("what above", x.about(0, 9), -1);
    check.due("no way", x.about(1, 0), -1);
    x.sign(0, 3);
    check.due("sign", x.about(0, 4), 3);
    check.due("no minute went by since", x.about(0, 8), 0);
    x.go(1);
    check.due("shut by its sign", x.about(0, 8), 1);
    x.sign(0, 0);
    check.due("of the minute that went by", x.about(0, 8), 1);
    x.group(2, 90, 0);
    x.aim(0, 0, 1);
    x.go(1);
    check.due("open again", x.about(0, 8), 0);
    check.due("heads on it now", x.about(0, 7), 90);
    check.due("press not yet", x.about(0, 5), 0);
    x.go(1);
    check.due("press", x.about(0, 5), 90 / 14);
  }

  private static void fars() {
    TentPlain x = new TentPlain();
    for (int i = 0; i < 5; i++) x.cell(0, 0, 0);
    x.way(0, 1, 105);
    x.way(1, 2, 106);
    x.way(0, 2, 112);
    x.way(2, 3, 101);
    check.due("to itself", x.far(4, 4), 0);
    check.due("over 1", x.far(0, 2), 11);
    check.due("back", x.far(3, 0), 12);
    check.due("none", x.far(0, 4), -4);
    check.due("no cell", x.far(0, 5), -1);
    check.due("below", x.far(-1, 0), -1);
    x.sign(1, 2);
    check.due("sign 2", x.far(0, 2), 12);
    check.due("sign 2 back", x.far(2, 0), 11);
    x.sign(1, 1);
    check.due("sign 1", x.far(0, 2), 11);
    check.due("sign 1 back", x.far(2, 0), 12);
    x.sign(3, 3);
    check.due("sign 3", x.far(0, 3), -4);
    x.way(3, 4, 130);
    check.due("a new way", x.far(4, 3), 30);
    check.due("a new cell", x.cell(0, 0, 0), 5);
    check.due("is not reached", x.far(5, 0), -4);
    check.due("but by itself", x.far(5, 5), 0);
  }
}
