/** Counts the answers that are not due, and ends a test with exit code 1 if there was one. */
final class Check {
  private final String test;
  private int asked = 0;
  private int wrong = 0;

  Check(String test) {
    this.test = test;
  }

  void due(String call, long got, long want) {
    asked++;
    if (got != want) {
      wrong++;
      if (wrong <= 40) System.out.println(test + ": " + call + " answered " + got + ", due is " + want);
    }
  }

  int asked() {
    return asked;
  }

  void end() {
    System.out.println(test + ": " + asked + " answers, " + wrong + " not as due");
    if (wrong != 0) System.exit(1);
  }

  /** Puts the signs of a text as a ROW of bytes on a SHELF. */
  static void write(TentPlain x, int d, String text) {
    x.row(d, 0, text.length());
    for (int i = 0; i < text.length(); i++) x.put(d, i, text.charAt(i));
  }

  /** Tells a TEXT by way of SHELF 7: its number. */
  static int tell(TentPlain x, String text) {
    write(x, 7, text);
    return x.text(7);
  }

  static void go(TentPlain x, int minutes) {
    for (int left = minutes; left > 0; left -= 120) x.go(Math.min(left, 120));
  }
}
