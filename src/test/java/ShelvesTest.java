/** Promises 43 to 49: SHELVES, ROWS, WEIGHT, FAILURES. */
public final class ShelvesTest {
  private static final Check check = new Check("ShelvesTest");
  private static final int ANSWERED = 0;
  private static final int ARGUMENT = 1;
  private static final int STATE = 2;

  public static void main(String[] args) {
    keeping();
    rows();
    puts();
    elements();
    copies();
    weights();
    tosses();
    check.end();
  }

  private static TentPlain withBodies() {
    TentPlain x = new TentPlain();
    x.cell(0, 0, 0);
    x.cell(0, 0, 0);
    x.way(0, 1, 105);
    x.way(0, 1, 105);
    x.group(0, 20, 0);
    x.stray(0, 0, 44, -1);
    x.comes(2, 0);
    x.comes(3, 1);
    x.post(1);
    x.comes(5, 0);
    return x;
  }

  private static void keeping() {
    TentPlain x = withBodies();
    check.due("no shelf", x.keep(8, 0, 0), -1);
    check.due("below", x.keep(-1, 0, 0), -1);
    check.due("what 2", x.keep(0, 2, 0), -1);
    check.due("what below", x.keep(0, -1, 0), -1);
    check.due("no body", x.keep(0, 1, 6), -1);
    check.due("body below", x.keep(0, 1, -1), -1);
    check.due("nothing yet", x.weight(0), -11);
    check.due("a body", x.keep(7, 1, 5), 0);
    check.due("refused changes nothing", x.keep(7, 1, 6), -1);
    check.due("it is held", x.weight(7), 11);
    check.due("nothing, the others do not matter", x.keep(7, 0, 99), 0);
    check.due("nothing", x.weight(7), -11);
  }

  private static void rows() {
    TentPlain x = withBodies();
    check.due("no shelf", x.row(8, 0, 1), -1);
    check.due("no sort", x.row(0, 3, 1), -1);
    check.due("sort below", x.row(0, -1, 1), -1);
    check.due("81", x.row(0, 0, 81), -1);
    check.due("below 0", x.row(0, 0, -1), -14);
    check.due("no sort ahead of it", x.row(0, 3, -1), -1);
    check.due("nothing yet", x.put(0, 0, 1), -11);
    check.due("80", x.row(0, 2, 80), 0);
    check.due("last", x.put(0, 79, 5), 0);
    check.due("anew", x.row(0, 2, 80), 0);
    check.due("0 at first", x.element(0, 79), 0);
    x.put(0, 0, 9);
    x.row(0, 2, 1);
    check.due("the first one, too", x.element(0, 0), 0);
    check.due("empty", x.row(0, 1, 0), 0);
    check.due("no place", x.put(0, 0, 1), -13);
  }

  private static void puts() {
    TentPlain x = withBodies();
    check.due("no shelf", x.put(8, 0, 0), -1);
    check.due("nothing", x.put(0, 0, 0), -11);
    x.keep(0, 1, 0);
    check.due("a body", x.put(0, 0, 0), -12);
    int[] told = {127, 128, 255, 256, -129, 32767, 32768, 65535, 65536, -32769, Integer.MAX_VALUE, Integer.MIN_VALUE};
    for (int sort = 0; sort < 3; sort++) {
      x.row(sort, sort, 2);
      for (int v : told) {
        check.due("put", x.put(sort, 1, v), 0);
        check.due("sort " + sort + " of " + v, x.element(sort, 1), sort == 0 ? (byte) v : sort == 1 ? (short) v : v);
      }
      check.due("place above", x.put(sort, 2, 0), -13);
      check.due("place below", x.put(sort, -1, 0), -13);
    }
  }

  private static int elementThrows(TentPlain x, int d, int i) {
    try {
      x.element(d, i);
      return ANSWERED;
    } catch (IllegalArgumentException e) {
      return e.getClass() == IllegalArgumentException.class ? ARGUMENT : -1;
    } catch (IllegalStateException e) {
      return e.getClass() == IllegalStateException.class ? STATE : -1;
    }
  }

  private static void elements() {
    TentPlain x = withBodies();
    check.due("no shelf", elementThrows(x, 8, 0), ARGUMENT);
    check.due("below", elementThrows(x, -1, 0), ARGUMENT);
    check.due("nothing", elementThrows(x, 0, 0), STATE);
    x.keep(0, 1, 0);
    check.due("a body", elementThrows(x, 0, 0), STATE);
    x.row(0, 0, 3);
    check.due("a place", elementThrows(x, 0, 2), ANSWERED);
    check.due("above", elementThrows(x, 0, 3), STATE);
    check.due("place below", elementThrows(x, 0, -1), STATE);
    x.keep(0, 1, 0);
    check.due("a body in place of the row", elementThrows(x, 0, 0), STATE);
    x.row(0, 0, 3);
    x.keep(0, 0, 0);
    check.due("nothing in place of the row", elementThrows(x, 0, 0), STATE);
  }

  private static void copies() {
    TentPlain x = withBodies();
    x.row(0, 2, 5);
    for (int i = 0; i < 5; i++) x.put(0, i, 10 + i);
    check.due("nothing there", x.copy(0, 0, 1, 0, 1), -11);
    check.due("nothing here", x.copy(1, 0, 0, 0, 1), -11);
    x.keep(2, 1, 0);
    check.due("nothing ahead of a body", x.copy(2, 0, 1, 0, 1), -11);
    check.due("a body", x.copy(0, 0, 2, 0, 1), -12);
    check.due("from a body", x.copy(2, 0, 0, 0, 1), -12);
    x.row(3, 0, 5);
    check.due("bytes to a body", x.copy(3, 0, 2, 0, 0), -12);
    check.due("bytes from a body", x.copy(2, 0, 3, 0, 0), -12);
    x.row(1, 1, 5);
    check.due("another sort", x.copy(0, 0, 1, 0, 1), -12);
    check.due("no shelf", x.copy(8, 0, 0, 0, 1), -1);
    check.due("no shelf to come to", x.copy(0, 0, 8, 0, 1), -1);
    check.due("n below 0", x.copy(0, 0, 0, 0, -1), -13);
    check.due("from below 0", x.copy(0, -1, 0, 0, 1), -13);
    check.due("to below 0", x.copy(0, 0, 0, -1, 1), -13);
    check.due("too many", x.copy(0, 2, 0, 0, 4), -13);
    check.due("too many there", x.copy(0, 0, 0, 2, 4), -13);
    check.due("far too many", x.copy(0, 1, 0, 1, Integer.MAX_VALUE), -13);
    check.due("far off", x.copy(0, Integer.MAX_VALUE, 0, 0, 1), -13);
    check.due("none", x.copy(0, 5, 0, 5, 0), 0);
    check.due("onto itself", x.copy(0, 0, 0, 1, 4), 4);
    int[] due = {10, 10, 11, 12, 13};
    for (int i = 0; i < 5; i++) check.due("element " + i, x.element(0, i), due[i]);
    x.row(3, 2, 2);
    check.due("to another", x.copy(0, 3, 3, 0, 2), 2);
    check.due("element", x.element(3, 1), 13);
  }

  private static void weights() {
    TentPlain x = withBodies();
    x.aim(0, 5, 1);
    x.aim(0, 6, 0);
    int[] due = {10 + 20 + 2, 10 + 1 + 44, 10 + 50 + 100, 2 * (10 + 300 + 100), 10 + 200 + 1, 11};
    for (int k = 0; k < 6; k++) {
      x.keep(k, 1, k);
      check.due("weight " + k, x.weight(k), due[k]);
    }
    x.unaim(0);
    x.found(1, 0);
    check.due("as then", x.weight(0), due[0]);
    check.due("as then", x.weight(1), due[1]);
    check.due("no shelf", x.weight(8), -1);
    check.due("nothing", x.weight(7), -11);
    x.row(7, 0, 1);
    check.due("a row", x.weight(7), -12);
  }

  private static void tosses() {
    TentPlain x = withBodies();
    int[] due = {0, 1, 2, 103, -15, -15};
    for (int k = 0; k < 6; k++) {
      x.keep(k, 1, k);
      check.due("toss " + k, x.toss(k), due[k]);
    }
    check.due("no shelf", x.toss(-1), -1);
    check.due("nothing", x.toss(7), -11);
    x.row(7, 0, 1);
    check.due("a row", x.toss(7), -12);
    x.aim(0, 0, 1);
    x.go(1);
    check.due("as then", x.toss(0), 0);
    x.keep(0, 1, 0);
    check.due("on a way", x.toss(0), -15);
    x = withBodies();
    x.keep(1, 1, 1);
    check.due("found", x.found(1, 0), 21);
    check.due("as then", x.toss(1), 1);
    x.keep(1, 1, 1);
    check.due("found: no cell", x.toss(1), -15);
  }
}
