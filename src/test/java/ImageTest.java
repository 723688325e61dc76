/** Promises 40 to 42: THE IMAGE and what is told. */
public final class ImageTest {
  private static final Check check = new Check("ImageTest");

  public static void main(String[] args) {
    counts();
    all();
    again();
    check.end();
  }

  private static void counts() {
    TentPlain x = new TentPlain();
    x.cell(0, 0, 10);
    x.cell(0, 0, 20);
    x.way(0, 1, 101);
    x.group(0, 100, 0);
    x.group(1, 50, 0);
    x.stray(0, 0, 1, -1);
    x.stray(0, 0, 1, -1);
    x.post(0);
    x.comes(5, 0);
    Check.tell(x, "h=0");
    int[] due = {2, 1, 6, 2, 0, 1, 150, 0, 0, 0, 2, 30, 1};
    for (int what = 0; what <= 12; what++) check.due("count " + what, x.count(what), due[what]);
    check.due("below", x.count(-1), -1);
    check.due("above", x.count(13), -1);
    x.found(2, 0);
    check.due("strays not found", x.count(10), 1);
    check.due("heads", x.count(6), 151);
    Check.go(x, 60);
    check.due("now", x.count(4), 60);
    check.due("fainted", x.count(8), x.body(0, 12) + x.body(1, 12));
    check.due("some did", x.count(8) > 0 ? 1 : 0, 1);
    x.carry(5, 0);
    check.due("carried", x.count(9), 1);
  }

  private static void all() {
    TentPlain x = new TentPlain();
    check.due("none", x.restore(), -3);
    x.cell(2, 0, 500);
    x.cell(0, 0, 0);
    x.way(0, 1, 110);
    x.group(0, 70, 0);
    x.aim(0, 30, 1);
    x.stray(0, 0, 9, -1);
    x.post(0);
    x.comes(5, 0);
    int text = Check.tell(x, "w>0");
    x.force(4, text);
    x.heat(3, 7);
    x.go(20);
    check.due("image", x.image(), 20);
    x.go(30);
    int thrown = x.body(0, 10);
    int sun = x.body(0, 8);
    int press = x.about(0, 5);
    x.water(0, 100);
    x.cell(0, 0, 0);
    x.way(0, 2, 101);
    x.sign(0, 3);
    x.heat(3, 8);
    x.force(4, -1);
    x.force(8, text);
    x.found(1, 0);
    x.unaim(0);
    x.group(0, 5, 0);
    check.due("another text", Check.tell(x, "w=9"), 1);
    x.row(0, 0, 3);
    x.keep(1, 1, 4);
    check.due("restore", x.restore(), 20);
    int[] due = {2, 1, 4, 1, 20, 1, 70, 0, 0, 0, 1, 430, 1};
    for (int what = 0; what <= 12; what++) check.due("count " + what, x.count(what), due[what]);
    check.due("heat", x.heat(3, 7), 7);
    check.due("sign", x.about(0, 4), 0);
    check.due("force", x.force(4, 0), 0);
    check.due("force of a post", x.force(8, -1), -4);
    check.due("heads", x.body(0, 4), 70);
    check.due("was", x.was(0, 19), 0);
    check.due("did not go by", x.was(0, 20), -3);
    check.due("record did not go by", x.record(20, 0), -3);
    check.due("shelves stay", x.weight(0), -12);
    check.due("shelves stay", x.weight(1), 15);
    check.due("text told later is no more", x.holds(1, -1, 0), -1);
    x.go(30);
    check.due("the same again", x.body(0, 10), thrown);
    check.due("the same again", x.body(0, 8), sun);
    check.due("the same again", x.about(0, 5), press);
    check.due("the group goes", x.body(0, 2), 0);
  }

  private static void again() {
    TentPlain x = new TentPlain();
    x.cell(0, 0, 0);
    x.cell(0, 0, 0);
    x.way(0, 1, 103);
    x.group(0, 10, 0);
    x.image();
    x.aim(0, 0, 1);
    x.go(10);
    check.due("gone", x.body(0, 1), 1);
    check.due("back", x.restore(), 0);
    check.due("in its cell", x.body(0, 1), 0);
    x.go(10);
    check.due("no aim", x.body(0, 1), 0);
    check.due("where it was this time", x.was(0, 9), 0);
    check.due("back again", x.restore(), 0);
    x.comes(2, 0);
    x.go(5);
    check.due("group later", x.group(1, 3, 0), 2);
    x.go(5);
    check.due("not there yet", x.was(2, 4), -3);
    check.due("there", x.was(2, 5), 1);
    check.due("a new image", x.image(), 10);
    x.go(1);
    check.due("of it", x.restore(), 10);
    check.due("count", x.count(2), 3);
  }
}
