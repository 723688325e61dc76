/** Promises 40 to 42: THE IMAGE and what is told. */
public final class ImageTest {
  private static final Check check = new Check("ImageTest");

  public static void main(String[] args) {
    counts();
    all();
    again();
    presses();
    bodiesAsThen();
    placesUsedAgain();
    check.end();
  }

  private static void counts() {
    TentPlain x = new TentPlain();
    x.cell(0, 0, 10);
    x.cell(0, 0, 20);
    x.way(0, 1, 101);
    x.group(0, 100, 0);
    x.group(1, 50, 0);
    x.stray(0, 0, 1, -1);
    x.stray(0, 0, 1, -1);
    x.post(0);
    x.comes(5, 0);
    Check.tell(x, "h=0");
    int[] due = {2, 1, 6, 2, 0, 1, 150, 0, 0, 0, 2, 30, 1};
    for (int what = 0; what <= 12; what++) check.due("count " + what, x.count(what), due[what]);
    check.due("below", x.count(-1), -1);
    check.due("above", x.count(13), -1);
    x.found(2, 0);
    check.due("strays not found", x.count(10), 1);
    check.due("heads", x.count(6), 151);
    Check.go(x, 60);
    check.due("now", x.count(4), 60);
    check.due("fainted", x.count(8), x.body(0, 12) + x.body(1, 12));
    check.due("some did", x.count(8) > 0 ? 1 : 0, 1);
    x.carry(5, 0);
    check.due("carried", x.count(9), 1);
  }

  private static void all() {
    TentPlain x = new TentPlain();
    check.due("none", x.restore(), -3);
    x.cell(2, 0, 500);
    x.cell(0, 0, 0);
    x.way(0, 1, 110);
    x.group(0, 70, 0);
    x.aim(0, 30, 1);
    x.stray(0, 0, 9, -1);
    x.post(0);
    x.comes(5, 0);
    int text = Check.tell(x, "w>0");
    x.force(4, text);
    x.heat(3, 7);
    x.go(20);
    check.due("image", x.image(), 20);
    x.go(30);
    int thrown = x.body(0, 10);
    int sun = x.body(0, 8);
    int press = x.about(0, 5);
    x.water(0, 100);
    x.cell(0, 0, 0);
    x.way(0, 2, 101);
    x.sign(0, 3);
    x.heat(3, 8);
    x.force(4, -1);
    x.force(8, text);
    x.found(1, 0);
    x.unaim(0);
    x.group(0, 5, 0);
    check.due("another text", Check.tell(x, "w=9"), 1);
    x.row(0, 0, 3);
    x.keep(1, 1, 4);
    check.due("restore", x.restore(), 20);
    int[] due = {2, 1, 4, 1, 20, 1, 70, 0, 0, 0, 1, 430, 1};
    for (int what = 0; what <= 12; what++) check.due("count " + what, x.count(what), due[what]);
    check.due("heat", x.heat(3, 7), 7);
    check.due("sign", x.about(0, 4), 0);
    check.due("force", x.force(4, 0), 0);
    check.due("force of a post", x.force(8, -1), -4);
    check.due("heads", x.body(0, 4), 70);
    check.due("was", x.was(0, 19), 0);
    check.due("did not go by", x.was(0, 20), -3);
    check.due("record did not go by", x.record(20, 0), -3);
    check.due("shelves stay", x.weight(0), -12);
    check.due("shelves stay", x.weight(1), 15);
    check.due("text told later is no more", x.holds(1, -1, 0), -1);
    x.go(30);
    check.due("the same again", x.body(0, 10), thrown);
    check.due("the same again", x.body(0, 8), sun);
    check.due("the same again", x.about(0, 5), press);
    check.due("the group goes", x.body(0, 2), 0);
  }

  private static void bodiesAsThen() {
    TentPlain x = new TentPlain();
    x.stray(0, 0, 0, -1);
    x.cell(1, 0, 0);
    x.stray(0, 0, 0, -1);
    check.due("stray 0 not found", x.count(10), 1);
    x.group(0, 400, 0);
    x.comes(5, 0);
    Check.go(x, 780);
    x.carry(2, 1);
    int[] then = new int[14];
    for (int what = 0; what < 14; what++) then[what] = x.body(1, what);
    check.due("stood", then[9], 60);
    check.due("carried", then[13], 1);
    x.image();
    x.go(90);
    x.carry(2, 1);
    check.due("stood more", x.body(1, 9), 150);
    x.restore();
    for (int what = 0; what < 14; what++) check.due("as then " + what, x.body(1, what), then[what]);
    check.due("carried as then", x.carry(2, 1), 2);
  }

  /** What comes to a number that was another's before RESTORE has nothing of that one. */
  private static void placesUsedAgain() {
    TentPlain x = new TentPlain();
    x.cell(2, 0, 0);
    x.cell(0, 0, 0);
    x.image();
    x.way(0, 1, 130);
    x.group(0, 100, 53);
    x.aim(0, 420, 1);
    x.comes(5, 0);
    Check.go(x, 400);
    x.carry(1, 0);
    Check.go(x, 80);
    check.due("thrown", x.body(0, 10), 7);
    check.due("fell or pressed", x.body(0, 2), 0);
    x.sign(0, 3);
    x.go(1);
    x.restore();
    check.due("no way", x.count(1), 0);
    x.way(1, 0, 5020);
    int[] way = {1, 0, 50, 20, 0, 0, 0, 0, 0};
    for (int what = 0; what < 9; what++) check.due("about " + what, x.about(0, what), way[what]);
    x.comes(2, 1);
    int[] bus = {2, 1, -4, 0, 0, 50, -4, -4, 0, 0, 0, 0, 0, 0};
    for (int what = 0; what < 14; what++) check.due("bus " + what, x.body(0, what), bus[what]);
    x.restore();
    x.group(0, 100, 0);
    int[] group = {0, 0, -4, 0, 100, 0, 0, 0, 0, 0, 0, 0, 0, 0};
    for (int what = 0; what < 14; what++) check.due("group " + what, x.body(0, what), group[what]);
    check.due("no aims", x.unaim(0), 0);
    Check.go(x, 400);
    check.due("throws anew", x.body(0, 10), 7);
    x.restore();
    x.stray(0, 0, 5, -1);
    x.group(0, 5, 0);
    check.due("stray of nobody known", x.found(0, 1), 6);
    TentPlain y = new TentPlain();
    y.cell(1, 0, 0);
    y.cell(2, 0, 0);
    Check.go(y, 720);
    y.image();
    y.way(0, 1, 130);
    y.group(0, 100, 0);
    y.aim(0, 725, 1);
    y.go(10);
    check.due("stood", y.body(0, 9), 5);
    check.due("fell", y.body(0, 11) > 0 ? 1 : 0, 1);
    check.due("to go", y.body(0, 3) > 0 ? 1 : 0, 1);
    check.due("push", y.about(0, 6) > 0 ? 1 : 0, 1);
    y.restore();
    y.way(1, 0, 5020);
    for (int what = 0; what < 9; what++) check.due("about " + what, y.about(0, what), way[what]);
    y.comes(2, 1);
    for (int what = 0; what < 14; what++) check.due("bus " + what, y.body(0, what), bus[what]);
    y.go(1);
    y.group(1, 100, 0);
    for (int hour = 0; hour < 24; hour++) y.heat(hour, 0);
    Check.go(y, 420);
    check.due("seven times since", y.body(1, 10), 7);
  }

  private static void presses() {
    TentPlain x = new TentPlain();
    x.cell(0, 9, 0);
    x.cell(0, 9, 0);
    x.way(0, 1, 130);
    x.group(0, 100, 0);
    x.aim(0, 0, 1);
    x.go(3);
    x.image();
    x.sign(0, 3);
    x.go(10);
    int push = x.about(0, 6);
    int heads = x.body(0, 4);
    check.due("as it was then", x.restore(), 3);
    check.due("press", x.about(0, 5), 92);
    check.due("push", x.about(0, 6), 52);
    check.due("heads on it", x.about(0, 7), 83);
    check.due("shut", x.about(0, 8), 0);
    x.go(10);
    check.due("goes on by it", x.about(0, 6), push);
    check.due("falls by it", x.body(0, 4), heads);
  }

  private static void again() {
    TentPlain x = new TentPlain();
    x.cell(0, 0, 0);
    x.cell(0, 0, 0);
    x.way(0, 1, 103);
    x.group(0, 10, 0);
    x.image();
    x.aim(0, 0, 1);
    x.go(10);
    check.due("gone", x.body(0, 1), 1);
    check.due("back", x.restore(), 0);
    check.due("in its cell", x.body(0, 1), 0);
    x.go(10);
    check.due("no aim", x.body(0, 1), 0);
    check.due("where it was this time", x.was(0, 9), 0);
    check.due("back again", x.restore(), 0);
    x.comes(2, 0);
    x.go(5);
    check.due("group later", x.group(1, 3, 0), 2);
    x.go(5);
    check.due("not there yet", x.was(2, 4), -3);
    check.due("there", x.was(2, 5), 1);
    check.due("a new image", x.image(), 10);
    x.go(1);
    check.due("of it", x.restore(), 10);
    check.due("count", x.count(2), 3);
  }
}
