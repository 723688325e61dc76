/** Promises 9 to 15: BODIES and TIMETABLES. */
public final class BodiesTest {
  private static final Check check = new Check("BodiesTest");

  public static void main(String[] args) {
    groups();
    strays();
    comers();
    posts();
    room();
    aims();
    bodies();
    check.end();
  }

  private static TentPlain withTwoCells() {
    TentPlain x = new TentPlain();
    x.cell(0, 0, 0);
    x.cell(0, 0, 0);
    x.way(0, 1, 102);
    return x;
  }

  private static void groups() {
    TentPlain x = withTwoCells();
    check.due("no cell", x.group(2, 1, 0), -1);
    check.due("heads 0", x.group(0, 0, 0), -1);
    check.due("heads 401", x.group(0, 401, 0), -1);
    check.due("school 4", x.group(0, 1, 4), -1);
    check.due("tongue 6", x.group(0, 1, 60), -1);
    check.due("told below 0", x.group(0, 1, -1), -1);
    check.due("least", x.group(0, 1, 0), 0);
    check.due("greatest", x.group(1, 400, 53), 1);
    check.due("tongue", x.body(1, 6), 5);
    check.due("school", x.body(1, 7), 3);
    check.due("heads", x.body(1, 4), 400);
    check.due("cell", x.body(1, 1), 1);
    check.due("tongue 0", x.body(0, 6), 0);
    check.due("school 0", x.body(0, 7), 0);
    check.due("count", x.count(3), 2);
  }

  private static void strays() {
    TentPlain x = withTwoCells();
    check.due("group not there", x.stray(0, 0, 0, 0), -1);
    x.group(0, 5, 0);
    x.comes(2, 0);
    check.due("a bus is no group", x.stray(0, 0, 0, 1), -1);
    check.due("group -2", x.stray(0, 0, 0, -2), -1);
    check.due("tongue 6", x.stray(0, 6, 0, -1), -1);
    check.due("tongue below", x.stray(0, -1, 0, -1), -1);
    check.due("age 111", x.stray(0, 0, 111, -1), -1);
    check.due("age below", x.stray(0, 0, -1, -1), -1);
    check.due("no cell", x.stray(2, 0, 0, -1), -1);
    check.due("of a group", x.stray(1, 5, 110, 0), 2);
    check.due("age", x.body(2, 7), 110);
    check.due("tongue", x.body(2, 6), 5);
    check.due("heads", x.body(2, 4), 1);
    check.due("kind", x.body(2, 0), 1);
    x.stray(0, 0, 0, -1);
    check.due("age 0", x.body(3, 7), 0);
  }

  private static void comers() {
    TentPlain x = withTwoCells();
    for (int kind = -1; kind < 7; kind++) {
      if (kind != 2 && kind != 3 && kind != 5) check.due("kind " + kind, x.comes(kind, 0), -1);
    }
    check.due("no cell", x.comes(2, 2), -1);
    check.due("bus", x.comes(2, 0), 0);
    check.due("train", x.comes(3, 1), 1);
    check.due("litter", x.comes(5, 0), 2);
    check.due("bus seats", x.body(0, 5), 50);
    check.due("train seats", x.body(1, 5), 300);
    check.due("litter seats", x.body(2, 5), 1);
    check.due("train cell", x.body(1, 1), 1);
    check.due("no tongue", x.body(0, 6), -4);
    check.due("no school", x.body(0, 7), -4);
    check.due("no heads", x.body(1, 4), 0);
  }

  private static void posts() {
    TentPlain x = withTwoCells();
    check.due("no way", x.post(1), -1);
    check.due("way below", x.post(-1), -1);
    for (int i = 0; i < 8; i++) check.due("post", x.post(0), i);
    check.due("a ninth", x.post(0), -2);
    check.due("no way ahead of it", x.post(1), -1);
    check.due("count", x.count(12), 8);
    check.due("no cell", x.body(7, 1), -4);
    check.due("its way", x.body(7, 2), 0);
    check.due("kind", x.body(7, 0), 4);
    check.due("seats", x.body(7, 5), 0);
    check.due("another body", x.comes(2, 0), 8);
  }

  private static void room() {
    TentPlain x = withTwoCells();
    for (int i = 0; i < 40; i++) check.due("group", x.group(0, 1, 0), i);
    check.due("group", x.group(0, 1, 0), -2);
    check.due("stray", x.stray(0, 0, 0, -1), -2);
    check.due("comes", x.comes(2, 0), -2);
    check.due("post", x.post(0), -2);
    check.due("refused ahead", x.comes(4, 0), -1);
    check.due("group refused ahead", x.group(0, 0, 0), -1);
    check.due("stray refused ahead", x.stray(0, 0, 0, 40), -1);
    check.due("count", x.count(2), 40);
    check.due("groups", x.count(3), 40);
  }

  private static void aims() {
    TentPlain x = withTwoCells();
    check.due("no group", x.aim(0, 0, 0), -1);
    check.due("unaim no group", x.unaim(0), -1);
    x.group(0, 1, 0);
    x.comes(2, 0);
    check.due("a bus has none", x.aim(1, 0, 0), -1);
    check.due("a bus has none to lose", x.unaim(1), -1);
    check.due("minute below", x.aim(0, -1, 0), -1);
    check.due("minute above", x.aim(0, 4321, 0), -1);
    check.due("no cell", x.aim(0, 0, 2), -1);
    check.due("first", x.aim(0, 10, 1), 1);
    check.due("falling", x.aim(0, 9, 0), -1);
    for (int i = 2; i <= 8; i++) check.due("not falling", x.aim(0, 10, 0), i);
    check.due("a ninth", x.aim(0, 4320, 0), -2);
    check.due("falling ahead of it", x.aim(0, 9, 0), -1);
    check.due("unaim", x.unaim(0), 8);
    check.due("none any more", x.unaim(0), 0);
    check.due("any minute again", x.aim(0, 0, 1), 1);
    check.due("the last minute", x.aim(0, 4320, 1), 2);
  }

  private static void bodies() {
    TentPlain x = withTwoCells();
    x.group(0, 30, 12);
    check.due("no such", x.body(1, 0), -1);
    check.due("below", x.body(-1, 0), -1);
    check.due("what below", x.body(0, -1), -1);
    check.due("what above", x.body(0, 14), -1);
    int[] due = {0, 0, -4, 0, 30, 0, 1, 2, 0, 0, 0, 0, 0, 0};
    for (int what = 0; what < 14; what++) check.due("body " + what, x.body(0, what), due[what]);
    x.aim(0, 0, 1);
    x.go(1);
    check.due("on a way: cell", x.body(0, 1), -4);
    check.due("on a way: way", x.body(0, 2), 0);
    check.due("minutes to go", x.body(0, 3), 2);
    check.due("sun", x.body(0, 8), 30);
    x.go(1);
    check.due("one less", x.body(0, 3), 1);
    x.go(1);
    check.due("out of it", x.body(0, 1), 1);
    check.due("no way", x.body(0, 2), -4);
    check.due("none to go", x.body(0, 3), 0);
  }
}
