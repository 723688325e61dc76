/** Edges of A MINUTE that goes by and of promises 22 to 25, a run for a sentence. */
public final class MinutesEdgesTest {
  private static final Runs runs = new Runs("MinutesEdgesTest");
  private static final String TWO = "cell(0, 0, 0) cell(0, 0, 0) ";
  private static final String THREE = TWO + "cell(0, 0, 0) ";
  private static final String NARROW = TWO + "way(0, 1, 130) ";
  private static final String ALL_KINDS =
      TWO + "way(0, 1, 105) group(0, 9, 0) stray(0, 1, 20, -1) comes(2, 0) comes(3, 1) post(0) comes(5, 1) ";
  private static final int[] FAR_OFF = {Integer.MIN_VALUE, Integer.MAX_VALUE};
  private static final int[] NO_GROUPS = {1, 2, 3, 4, 5};

  public static void main(String[] args) {
    presses();
    pushes();
    pushesBeside();
    shuts();
    falls();
    walks();
    ends();
    aims();
    steps();
    guides();
    rooms();
    standing();
    throwing();
    suns();
    drinks();
    faints();
    goes();
    records();
    pushed();
    was();
    runs.end();
  }

  private static void presses() {
    runs.run("PRESS is cut", TWO + "way(0, 1, 330) group(0, 50, 0) aim(0, 0, 1) go(2) = 16 about(0, 5) = 16");
    runs.run("PRESS of exactly WIDTH", TWO + "way(0, 1, 3030) group(0, 30, 0) group(0, 29, 0) aim(0, 0, 1) go(2) = 1");
    runs.run("PRESS of fewer HEADS than WIDTH", TWO + "way(0, 1, 3030) group(0, 29, 0) aim(0, 0, 1) go(2) = 0 about(0, 7) = 29");
    runs.run("PRESS is of all GROUPS together, cut once", TWO + "way(0, 1, 330) group(0, 50, 0) group(0, 52, 0) aim(0, 0, 1) aim(1, 0, 1) go(2) = 34");
    runs.run("PRESS is of GROUPS on it ahead of their STEPS", NARROW + "group(0, 50, 0) aim(0, 0, 1) go(1) = 0 go(1) = 50");
    runs.run("PRESS is not of STRAYS nor of those that wait", NARROW + "group(0, 50, 0) stray(0, 0, 1, -1) comes(2, 0) go(2) = 0");
    runs.run("PRESS is of HEADS that did not fall", NARROW + "group(0, 100, 0) aim(0, 0, 1) go(2) = 100 go(1) = 92");
  }

  private static void pushes() {
    String step = " aim(0, 0, 1) go(2) ";
    runs.run("PUSH with PRESS 60 is not above 60", NARROW + "group(0, 60, 0)" + step + "about(0, 5) = 60 about(0, 6) = 0 go(1) about(0, 6) = 0");
    runs.run("PUSH with PRESS 61 is PRESS less 60", NARROW + "group(0, 61, 0)" + step + "about(0, 6) = 1");
    runs.run("PUSH has half of itself, cut, on top", NARROW + "group(0, 63, 0)" + step + "about(0, 6) = 3 go(1) about(0, 6) = 4 go(1) about(0, 6) = 5 go(1) about(0, 6) = 5");
    runs.run("PUSH with PRESS 60 and less has none of its own", TWO + "way(0, 1, 102) group(0, 40, 0) aim(0, 0, 1) group(0, 30, 0) aim(1, 2, 1)",
        "go(4) = 70 about(0, 6) = 10 go(1) about(0, 6) = 15 body(0, 1) = 1 body(1, 3) = 1 go(1) about(0, 5) = 30 about(0, 6) = 0");
    runs.run("PUSH begins anew behind it", NARROW + "group(0, 62, 0) aim(0, 0, 1) go(2) about(0, 6) = 2 sign(0, 3) go(1) about(0, 6) = 3");
    runs.run("PUSH of a WAY without anybody is 0 again", TWO + "way(0, 1, 101) group(0, 70, 0) aim(0, 1, 1) go(3) about(0, 6) = 10 body(0, 1) = 1 go(1) about(0, 6) = 0");
  }

  /** WAY 0 has 100 HEADS on it from MINUTE 1 on: PUSH 40, 52. WAY 1 is beside it. */
  private static void pushesBeside() {
    String beside = THREE + "way(0, 1, 130) way(2, 1, 130) group(0, 100, 0) aim(0, 0, 1) group(2, # , 0) aim(1, 0, 1) ";
    runs.run("PRESS 30: half of the greatest PUSH beside it", beside.replace("#", "30") + "go(3) about(0, 6) = 52 about(1, 6) = 20");
    runs.run("PRESS 29: 0", beside.replace("#", "29") + "go(3) about(0, 6) = 52 about(1, 6) = 0 go(1) about(1, 6) = 0");
    runs.run("PRESS 60: half of the greatest PUSH beside it", beside.replace("#", "60") + "go(3) about(1, 6) = 20");
    runs.run("PRESS 61: its own", beside.replace("#", "61") + "go(2) about(1, 6) = 1 go(1) about(1, 6) = 1");
    runs.run("all at once, by PUSHES as they were", beside.replace("#", "32") + "go(2) about(0, 6) = 40 about(1, 6) = 0 go(1) about(1, 6) = 20 go(1) about(1, 6) = 26");
    runs.run("by PUSHES as they were of a WAY with a lesser number, too", THREE + "way(2, 1, 130) way(0, 1, 130) group(0, 100, 0) aim(0, 0, 1) group(2, 30, 0) aim(1, 0, 1)",
        "go(2) about(1, 6) = 40 about(0, 6) = 0 go(1) about(0, 6) = 20");
    runs.run("half is cut", THREE + "way(0, 1, 130) way(2, 1, 130) group(0, 63, 0) aim(0, 0, 1) group(2, 30, 0) aim(1, 0, 1) go(3) about(1, 6) = 1 go(1) about(1, 6) = 2 go(1) about(1, 6) = 2");
    runs.run("the greatest of several, not the sum, not the last", "cell(0, 0, 0) * 5 way(0, 1, 130) way(2, 1, 130) way(3, 1, 130)",
        "group(0, 80, 0) aim(0, 0, 1) group(2, 30, 0) aim(1, 0, 1) group(3, 70, 0) aim(2, 0, 1) go(2) about(0, 6) = 20 about(2, 6) = 10 go(1) about(1, 6) = 10");
    runs.run("a CELL in common may be either of either", THREE + "way(1, 0, 130) way(1, 2, 130) group(0, 100, 0) aim(0, 0, 1) group(2, 30, 0) aim(1, 0, 1) go(3) about(1, 6) = 20");
    runs.run("both CELLS in common", TWO + "way(0, 1, 130) way(1, 0, 130) sign(0, 1) sign(1, 1) group(0, 100, 0) aim(0, 0, 1) group(1, 30, 0) aim(1, 0, 0) go(3) about(1, 6) = 20");
    runs.run("no CELL in common", "cell(0, 0, 0) * 4 way(0, 1, 130) way(2, 3, 130) group(0, 100, 0) aim(0, 0, 1) group(2, 30, 0) aim(1, 0, 3) go(3) about(0, 6) = 52 about(1, 6) = 0");
    runs.run("by the PUSH that the one beside it had, where that ends in this MINUTE", THREE + "way(0, 1, 102) way(2, 1, 130) group(0, 40, 0) aim(0, 0, 1) group(0, 30, 0) aim(1, 2, 1) group(2, 30, 0) aim(2, 0, 1)",
        "go(5) about(0, 6) = 15 about(1, 6) = 5 go(1) about(0, 6) = 2 about(1, 6) = 7 go(1) about(0, 6) = 0 about(1, 6) = 1");
    runs.run("where that has the greater number, too", THREE + "way(2, 1, 130) way(0, 1, 102) group(0, 40, 0) aim(0, 0, 1) group(0, 30, 0) aim(1, 2, 1) group(2, 30, 0) aim(2, 0, 1)",
        "go(5) about(1, 6) = 15 about(0, 6) = 5 go(1) about(1, 6) = 2 about(0, 6) = 7 go(1) about(1, 6) = 0 about(0, 6) = 1");
    runs.run("beside all 24 WAYS", TWO + "way(0, 1, 130) * 23 way(0, 1, 130) group(0, 40, 0) aim(0, 0, 1) group(1, 100, 0) sign(0, 1) aim(1, 1, 0) go(4) = 100 about(1, 6) = 52 about(0, 6) = 20 about(23, 6) = 0");
    runs.run("it goes on from the one beside to the one beside that", "cell(0, 0, 0) * 4 way(0, 1, 130) way(2, 1, 130) way(3, 2, 130)",
        "group(0, 100, 0) aim(0, 0, 1) group(2, 40, 0) aim(1, 0, 1) group(3, 30, 0) aim(2, 0, 2) go(3) about(1, 6) = 20 about(2, 6) = 0 go(1) about(1, 6) = 26 about(2, 6) = 10");
    runs.run("through CELLS, whatever SIGNS let", beside.replace("#", "30") + "go(1) sign(0, 3) sign(1, 3) go(2) about(1, 6) = 20");
  }

  private static void shuts() {
    String post = TWO + "way(0, 1, 105) group(0, 5, 0) post(0) ";
    runs.run("SHUT by SIGN 3", TWO + "way(0, 1, 105) sign(0, 3) go(1) about(0, 8) = 1");
    runs.run("SHUT back to CELL 0 by a POST's TEXT", TWO + "way(0, 1, 105) group(1, 5, 0) post(0) tell(\"0=0\") force(8, 0) aim(0, 0, 0) go(9) about(0, 8) = 1 body(0, 1) = 1");
    runs.run("SHUT by the last of 8 POSTS", TWO + "way(0, 1, 105) group(0, 5, 0) post(0) * 8 tell(\"0=0\") force(15, 0) aim(0, 0, 1) go(9) about(0, 8) = 1 body(0, 1) = 0");
    runs.run("SHUT by a POST's TEXT", post + "tell(\"0=0\") force(8, 0) aim(0, 0, 1) go(9) about(0, 8) = 1 body(0, 1) = 0");
    runs.run("not SHUT by a TEXT that doesn't hold", post + "tell(\"0=1\") force(8, 0) aim(0, 0, 1) go(1) about(0, 8) = 0 body(0, 2) = 0");
    runs.run("a POST shuts its WAY alone", post + "way(0, 1, 105) tell(\"0=0\") force(8, 0) aim(0, 0, 1) go(1) about(0, 8) = 1 about(1, 8) = 0 body(0, 2) = 1");
    runs.run("who is on a WAY that is SHUT goes on", post + "aim(0, 0, 1) go(1) body(0, 2) = 0 tell(\"0=0\") force(8, 0) sign(0, 3) go(5) body(0, 1) = 1");
    runs.run("PRESS as it is now", NARROW + "group(0, 50, 0) group(0, 5, 0) post(0) aim(0, 0, 1) aim(1, 1, 1) tell(\"p=50\") = 0 force(8, 0) go(1) body(0, 2) = 0 go(1) about(0, 8) = 1 body(1, 1) = 0");
    runs.run("PUSH as it is now", NARROW + "group(0, 70, 0) group(0, 5, 0) post(0) aim(0, 0, 1) aim(1, 1, 1) tell(\"q=10\") = 0 force(8, 0) go(2) about(0, 8) = 1 body(1, 1) = 0 go(1) about(0, 8) = 0 body(1, 2) = 0");
  }

  private static void falls() {
    runs.run("PUSH 19: nobody FELL", NARROW + "group(0, 79, 0) aim(0, 0, 1) go(2) about(0, 6) = 19 body(0, 11) = 0 body(0, 4) = 79");
    runs.run("PUSH 20: HEADS times PUSH by 500", NARROW + "group(0, 80, 0) aim(0, 0, 1) go(2) about(0, 6) = 20 body(0, 11) = 3 body(0, 4) = 77 count(7) = 3 count(6) = 77");
    runs.run("of each GROUP by itself, cut", NARROW + "group(0, 60, 0) group(0, 25, 0) aim(0, 0, 1) aim(1, 0, 1) go(2) about(0, 6) = 25 body(0, 11) = 3 body(1, 11) = 1 count(7) = 4");
    runs.run("just as many HEADS as make whole ones fall", NARROW + "group(0, 75, 0) group(0, 25, 0) aim(0, 0, 1) aim(1, 0, 1) go(2) about(0, 6) = 40 body(0, 11) = 6 body(1, 11) = 2");
    runs.run("just fewer than make one more fall", NARROW + "group(0, 70, 0) group(0, 27, 0) aim(0, 0, 1) aim(1, 0, 1) go(2) about(0, 6) = 37 body(0, 11) = 5 body(1, 11) = 1");
    runs.run("without HEAT, too", NARROW + "heat(0, 0) group(0, 80, 0) aim(0, 0, 1) go(2) body(0, 8) = 0 body(0, 11) = 3");
    runs.run("too few HEADS for one to fall", NARROW + "group(0, 60, 0) group(0, 19, 0) group(0, 1, 0) aim(0, 0, 1) aim(1, 0, 1) aim(2, 0, 1) go(2) about(0, 6) = 20 body(0, 11) = 2 body(1, 11) = 0 body(2, 11) = 0");
    runs.run("by PUSH, whatever PRESS is", THREE + "way(0, 1, 130) way(2, 1, 130) group(0, 100, 0) aim(0, 0, 1) group(2, 30, 0) aim(1, 0, 1) go(2) body(1, 11) = 0 go(1) about(1, 6) = 20 body(1, 11) = 1");
    runs.run("those in CELLS do not fall", NARROW + "group(0, 100, 0) group(0, 100, 0) group(1, 100, 0) aim(0, 0, 1) go(4) body(1, 11) = 0 body(2, 11) = 0");
    runs.run("those on other WAYS do not fall", NARROW + "way(0, 1, 230) group(0, 100, 0) aim(0, 0, 1) go(1) sign(0, 3) group(0, 40, 0) aim(1, 0, 1) go(2) body(1, 2) = 1 about(0, 6) = 52 body(1, 11) = 0");
    runs.run("ahead of walking out", TWO + "way(0, 1, 101) group(0, 79, 0) aim(0, 1, 1) go(3) body(0, 1) = 1 body(0, 11) = 0");
    runs.run("who falls in the MINUTE of walking out", TWO + "way(0, 1, 101) way(1, 0, 130) group(1, 100, 0) aim(0, 0, 0) sign(0, 1) group(0, 50, 0) aim(1, 1, 1) go(2) about(1, 6) = 40 go(1) about(0, 6) = 20 body(1, 1) = 1 body(1, 11) = 2 body(1, 4) = 48");
  }

  private static void walks() {
    runs.run("PRESS 39: in odd MINUTES, too", NARROW + "group(0, 39, 0) aim(0, 0, 1) go(2) body(0, 3) = 29 go(1) body(0, 3) = 28");
    runs.run("PRESS 40: not in odd MINUTES", NARROW + "group(0, 40, 0) aim(0, 0, 1) go(2) body(0, 3) = 30");
    runs.run("PRESS 40: in even MINUTES", NARROW + "group(0, 40, 0) aim(0, 0, 1) go(3) body(0, 3) = 29 go(1) body(0, 3) = 29 go(1) body(0, 3) = 28");
    runs.run("PRESS 79: in even MINUTES", NARROW + "group(0, 79, 0) aim(0, 1, 1) go(3) about(0, 5) = 79 body(0, 3) = 29");
    runs.run("PRESS 79: not in odd MINUTES", NARROW + "group(0, 79, 0) aim(0, 0, 1) go(2) about(0, 5) = 79 body(0, 3) = 30");
    runs.run("PRESS 80: not in even MINUTES", NARROW + "group(0, 80, 0) aim(0, 1, 1) go(3) about(0, 5) = 80 body(0, 3) = 30");
    runs.run("PRESS 80: not in odd MINUTES", NARROW + "group(0, 80, 0) aim(0, 0, 1) go(2) about(0, 5) = 80 body(0, 3) = 30");
    runs.run("by PRESS ahead of those that FELL", NARROW + "group(0, 80, 0) aim(0, 1, 1) go(3) about(0, 7) = 77 body(0, 3) = 30");
    runs.run("not in the MINUTE of the STEP", NARROW + "group(0, 5, 0) aim(0, 0, 1) go(1) body(0, 3) = 30 go(1) body(0, 3) = 29");
    runs.run("even MINUTES are those of NOW, on later days, too", NARROW + "cell(0, 9, 99999) way(2, 0, 101) heat(0, 0) group(2, 40, 0) aim(0, 1441, 1) pass(1443) body(0, 3) = 30 go(1) body(0, 3) = 30 go(1) body(0, 3) = 29");
    runs.run("each GROUP on it goes by the PRESS of all", NARROW + "group(0, 20, 0) group(0, 20, 0) aim(0, 0, 1) aim(1, 0, 1) go(2) body(0, 3) = 30 body(1, 3) = 30 go(1) body(0, 3) = 29 body(1, 3) = 29");
    runs.run("a GROUP without HEADS on a WAY goes on", NARROW + "group(0, 1, 0) heat(0, 60) aim(0, 10, 1) go(26) body(0, 4) = 0 body(0, 2) = 0 body(0, 3) = 15 go(15) body(0, 1) = 1");
  }

  private static void ends() {
    runs.run("with none left it is at the other end, from a to b", TWO + "way(0, 1, 102) group(0, 5, 0) aim(0, 0, 1) go(2) body(0, 3) = 1 go(1) body(0, 1) = 1");
    runs.run("with none left it is at the other end, from b to a", TWO + "way(0, 1, 102) group(1, 5, 0) aim(0, 0, 0) go(2) body(0, 3) = 1 go(1) body(0, 1) = 0");
    runs.run("LENGTH 1 is one MINUTE behind the STEP's", TWO + "way(0, 1, 101) group(0, 5, 0) aim(0, 0, 1) go(2) was(0, 0) = 100 was(0, 1) = 1");
    runs.run("it goes on in the MINUTE in which it came", THREE + "way(0, 1, 101) way(1, 2, 101) group(0, 5, 0) aim(0, 0, 2) go(3) was(0, 0) = 100 was(0, 1) = 101 was(0, 2) = 2");
    runs.run("it comes out of a WAY whose SIGN was turned", TWO + "way(0, 1, 102) group(0, 5, 0) aim(0, 0, 1) go(1) sign(0, 2) go(2) body(0, 1) = 1");
  }

  private static void aims() {
    String plain = THREE + "way(0, 1, 101) way(0, 2, 101) group(0, 5, 0) ";
    runs.run("an AIM holds from its MINUTE on", plain + "aim(0, 4, 1) go(4) body(0, 1) = 0 go(1) body(0, 2) = 0 was(0, 3) = 0 was(0, 4) = 100");
    runs.run("the last one whose MINUTE is NOW or less", plain + "aim(0, 0, 1) aim(0, 5, 2) go(5) body(0, 1) = 1 go(1) body(0, 2) = 0 go(2) body(0, 1) = 2");
    runs.run("of several of one MINUTE the last", plain + "aim(0, 0, 1) aim(0, 0, 2) go(2) body(0, 1) = 2 go(5) body(0, 1) = 2");
    runs.run("one that is still to come does not hold", plain + "aim(0, 0, 1) aim(0, 4320, 2) go(9) body(0, 1) = 1");
    runs.run("in its CELL it stays", plain + "aim(0, 0, 0) go(9) body(0, 1) = 0");
    runs.run("without one it stays", plain + "go(9) body(0, 1) = 0");
    runs.run("an AIM that is gone by holds on", plain + "water(0, 20000) aim(0, 0, 1) sign(0, 3) pass(200) body(0, 1) = 0 sign(0, 0) go(1) body(0, 2) = 0");
    runs.run("the 8th AIM", plain + "aim(0, 0, 1) * 7 aim(0, 3, 2) go(3) body(0, 1) = 1 go(3) body(0, 1) = 2");
    runs.run("the AIM of MINUTE 4319", plain + "water(0, 20000) aim(0, 4319, 1) pass(4319) body(0, 1) = 0 go(1) body(0, 2) = 0");
  }

  private static void steps() {
    runs.run("SIGN 1 leads on from a", TWO + "way(0, 1, 105) sign(0, 1) group(0, 5, 0) aim(0, 0, 1) go(1) body(0, 2) = 0");
    runs.run("SIGN 1 does not lead on from b", TWO + "way(0, 1, 105) sign(0, 1) group(1, 5, 0) aim(0, 0, 0) go(9) body(0, 1) = 1");
    runs.run("SIGN 2 leads on from b", TWO + "way(0, 1, 105) sign(0, 2) group(1, 5, 0) aim(0, 0, 0) go(1) body(0, 2) = 0");
    runs.run("SIGN 2 does not lead on from a", TWO + "way(0, 1, 105) sign(0, 2) group(0, 5, 0) aim(0, 0, 1) go(9) body(0, 1) = 0");
    runs.run("SIGN 3 does not lead on", TWO + "way(0, 1, 105) sign(0, 3) group(0, 5, 0) aim(0, 0, 1) go(9) body(0, 1) = 0");
    runs.run("none of all 24 leads on", THREE + "way(0, 1, 105) * 24 group(0, 5, 0) aim(0, 0, 2) go(9) body(0, 1) = 0");
    runs.run("none of all 24 but one that is SHUT", TWO + "way(0, 1, 105) way(0, 1, 106) * 23 group(0, 5, 0) aim(0, 0, 1) post(0) tell(\"0=0\") = 0 force(8, 0) go(9) body(0, 1) = 0");
    runs.run("the last of all 24 leads on", THREE + "way(0, 1, 105) * 23 way(0, 2, 105) group(0, 5, 0) aim(0, 0, 2) go(9) body(0, 1) = 2 was(0, 0) = 123");
    runs.run("there is none: it waits", THREE + "way(0, 1, 105) group(0, 5, 0) aim(0, 0, 2) go(9) body(0, 1) = 0");
    runs.run("of a way of least LENGTH", THREE + "way(0, 2, 111) way(0, 1, 105) way(1, 2, 105) group(0, 5, 0) aim(0, 0, 2) go(1) body(0, 2) = 1");
    runs.run("the first by numbers of several", THREE + "way(0, 2, 110) way(0, 1, 105) way(1, 2, 105) group(0, 5, 0) aim(0, 0, 2) go(1) body(0, 2) = 0");
    runs.run("the first by numbers, not of fewest WAYS", THREE + "way(0, 1, 105) way(1, 2, 105) way(0, 2, 110) group(0, 5, 0) aim(0, 0, 2) go(1) body(0, 2) = 0 body(0, 3) = 5");
    runs.run("the first by numbers that leads on from its CELL", THREE + "way(1, 2, 105) way(0, 1, 105) group(0, 5, 0) aim(0, 0, 2) go(1) body(0, 2) = 1");
    runs.run("reckoned from here to the AIM, not back", THREE + "way(0, 1, 105) way(1, 2, 105) sign(1, 1) way(0, 2, 120) group(0, 5, 0) aim(0, 0, 2) go(1) body(0, 2) = 0");
    runs.run("a shorter WAY to elsewhere is none", THREE + "way(0, 1, 101) way(0, 2, 110) group(0, 5, 0) aim(0, 0, 2) go(1) body(0, 2) = 1");
    runs.run("reckoned by SIGNS farther off", THREE + "way(0, 1, 105) way(1, 2, 105) way(0, 2, 120) sign(1, 2) group(0, 5, 0) aim(0, 0, 2) go(1) body(0, 2) = 2");
    runs.run("MINUTES to go are its LENGTH", TWO + "way(0, 1, 117) group(0, 5, 0) aim(0, 0, 1) go(1) body(0, 3) = 17");
    runs.run("a GROUP without HEADS takes no STEP", TWO + "way(0, 1, 105) group(0, 1, 0) heat(0, 60) go(26) body(0, 4) = 0 aim(0, 0, 1) go(9) body(0, 1) = 0");
    runs.run("but with one that was FOUND", TWO + "way(0, 1, 105) group(0, 1, 0) heat(0, 60) go(26) stray(0, 0, 5, -1) found(1, 0) = 1 aim(0, 0, 1) go(1) body(0, 2) = 0");
  }

  private static void guides() {
    String always = "tell(\"0=0\") = 0 force(8, 0) ";
    runs.run("the guide doesn't know what POSTS shut farther off", THREE + "way(0, 1, 105) way(1, 2, 105) way(0, 2, 111) group(0, 5, 0) aim(0, 0, 2) post(1) " + always + "go(1) about(1, 8) = 1 body(0, 2) = 0");
    runs.run("it waits before what is SHUT", THREE + "way(0, 1, 105) way(1, 2, 105) way(0, 2, 111) group(0, 5, 0) aim(0, 0, 2) post(1) " + always + "go(30) body(0, 1) = 1 force(8, -1) go(1) body(0, 2) = 1");
    runs.run("reckoned as if no POST shut any, here neither", TWO + "way(0, 1, 105) way(0, 1, 106) group(0, 5, 0) aim(0, 0, 1) post(0) " + always + "go(9) body(0, 1) = 0");
    runs.run("of those of least LENGTH one that isn't SHUT", TWO + "way(0, 1, 105) way(0, 1, 105) group(0, 5, 0) aim(0, 0, 1) post(0) " + always + "go(1) body(0, 2) = 1");
    runs.run("but the guide knows SIGNS", TWO + "way(0, 1, 105) way(0, 1, 106) group(0, 5, 0) aim(0, 0, 1) sign(0, 3) go(1) body(0, 2) = 1");
  }

  private static void rooms() {
    runs.run("100 times WIDTH are let on", NARROW + "group(0, 100, 0) aim(0, 0, 1) go(1) body(0, 2) = 0");
    runs.run("one more waits", NARROW + "group(0, 101, 0) aim(0, 0, 1) go(9) body(0, 1) = 0");
    runs.run("400 HEADS on WIDTH 4", TWO + "way(0, 1, 430) group(0, 400, 0) aim(0, 0, 1) go(1) body(0, 2) = 0");
    runs.run("400 HEADS and one on WIDTH 4", TWO + "way(0, 1, 430) group(0, 400, 0) group(0, 1, 0) aim(0, 0, 1) aim(1, 0, 1) go(1) body(0, 2) = 0 body(1, 1) = 0");
    runs.run("with those that came onto it in this MINUTE", NARROW + "group(0, 60, 0) group(0, 41, 0) group(0, 40, 0) aim(0, 0, 1) aim(1, 0, 1) aim(2, 0, 1) go(1) body(0, 2) = 0 body(1, 1) = 0 body(2, 2) = 0");
    runs.run("with those that came onto it from the other end", NARROW + "group(1, 60, 0) group(0, 41, 0) aim(0, 0, 0) aim(1, 0, 1) go(1) body(0, 2) = 0 body(1, 1) = 0");
    runs.run("others are not tried", NARROW + "way(0, 1, 130) group(0, 60, 0) group(0, 41, 0) aim(0, 0, 1) aim(1, 0, 1) go(1) body(0, 2) = 0 body(1, 1) = 0 go(1) body(1, 1) = 0");
    runs.run("without those that went out of it in this MINUTE", TWO + "way(0, 1, 101) group(0, 60, 0) group(0, 60, 0) aim(0, 1, 1) aim(1, 2, 1) go(3) body(0, 1) = 1 body(1, 2) = 0");
    runs.run("without those that FELL in this MINUTE", NARROW + "group(0, 100, 0) group(0, 8, 0) group(0, 1, 0) aim(0, 0, 1) aim(1, 1, 1) aim(2, 1, 1) go(2) body(0, 4) = 92 body(1, 2) = 0 body(2, 1) = 0");
    runs.run("HEADS as they are, not as they came", NARROW + "group(0, 101, 0) heat(0, 60) go(26) body(0, 4) = 98 aim(0, 0, 1) go(1) body(0, 2) = 0");
  }

  private static void standing() {
    String hill = "cell(1, 0, 99999) group(0, 5, 0) ";
    runs.run("not in HOUR 11", hill + "pass(720) body(0, 9) = 0");
    runs.run("from HOUR 12 on", hill + "pass(721) body(0, 9) = 1");
    runs.run("to the end of HOUR 17", hill + "pass(1080) body(0, 9) = 360");
    runs.run("not in HOUR 18", hill + "pass(1081) body(0, 9) = 360 pass(359) body(0, 9) = 360");
    runs.run("once a MINUTE, with other BODIES, too", hill + "comes(2, 0) * 3 group(0, 5, 0) stray(0, 0, 1, -1) pass(721) body(0, 9) = 1 body(4, 9) = 1");
    runs.run("each day", hill + "pass(2160) body(0, 9) = 360 go(1) body(0, 9) = 361 pass(2159) body(0, 9) = 1080");
    for (int sort = 0; sort < 4; sort++) {
      if (sort != 1) runs.run("not in SORT " + sort, "cell(" + sort + ", 0, 99999) group(0, 5, 0) pass(800) body(0, 9) = 0");
    }
    runs.run("in the MINUTE in which it came", "cell(1, 0, 99999) cell(0, 0, 99999) way(0, 1, 105) group(1, 5, 0) aim(0, 725, 0) pass(730) body(0, 2) = 0 body(0, 9) = 0 go(1) body(0, 1) = 0 body(0, 9) = 1");
    runs.run("not in the MINUTE in which it goes", "cell(1, 0, 99999) cell(0, 0, 99999) way(0, 1, 105) group(0, 5, 0) aim(0, 725, 1) pass(726) body(0, 2) = 0 body(0, 9) = 5");
    runs.run("not without HEADS", "cell(1, 0, 0) group(0, 1, 0) group(0, 1, 0) pass(720) body(0, 4) = 0 stray(0, 0, 1, -1) found(2, 1) = 1 go(1) body(0, 9) = 0 body(1, 9) = 1");
  }

  private static void throwing() {
    String wall = "cell(2, 0, 99999) group(0, 5, 0) ";
    runs.run("in MINUTE 0", wall + "go(1) body(0, 10) = 1");
    runs.run("not between", wall + "go(60) body(0, 10) = 1");
    runs.run("in MINUTE 60", wall + "go(61) body(0, 10) = 2");
    runs.run("7 times a day", wall + "pass(360) body(0, 10) = 6 go(1) body(0, 10) = 7");
    runs.run("once, with other BODIES, too", wall + "comes(2, 0) * 3 group(0, 5, 0) stray(0, 0, 1, -1) go(1) body(0, 10) = 1 body(4, 10) = 1");
    runs.run("not an 8th time", wall + "pass(421) body(0, 10) = 7 pass(1019) body(0, 10) = 7");
    runs.run("the next day begins with MINUTE 1440", wall + "pass(1440) body(0, 10) = 7 go(1) body(0, 10) = 8");
    runs.run("7 times that day, too", wall + "pass(2880) body(0, 10) = 14 pass(1440) body(0, 10) = 21");
    runs.run("a day that began elsewhere", "cell(2, 0, 99999) cell(0, 0, 99999) way(1, 0, 101) group(1, 5, 0) aim(0, 1000, 0) pass(1440) body(0, 10) = 7 go(1) body(0, 10) = 8",
        "pass(1439) body(0, 10) = 14");
    runs.run("on a WAY when the day begins", "cell(2, 0, 99999) cell(0, 0, 99999) way(1, 0, 105) group(0, 5, 0) aim(0, 1437, 1) aim(0, 1438, 0) pass(1441) body(0, 10) = 7 body(0, 2) = 0 pass(1439) body(0, 10) = 14");
    runs.run("a GROUP that comes behind others' seven", wall + "pass(500) group(0, 5, 0) pass(940) body(0, 10) = 7 body(1, 10) = 7");
    runs.run("6 times, 1 more on the next day, then 6 more", "cell(2, 0, 99999) cell(0, 0, 99999) way(1, 0, 101) group(1, 5, 0) aim(0, 1049, 0) pass(1440) body(0, 10) = 6 pass(360) body(0, 10) = 12 go(1) body(0, 10) = 13 pass(600) body(0, 10) = 13");
    for (int sort = 0; sort < 4; sort++) {
      if (sort != 2) runs.run("not in SORT " + sort, "cell(" + sort + ", 0, 99999) group(0, 5, 0) pass(200) body(0, 10) = 0");
    }
    runs.run("in the MINUTE in which it came", "cell(2, 0, 0) cell(0, 0, 0) way(0, 1, 105) group(1, 5, 0) aim(0, 55, 0) go(60) body(0, 10) = 0 go(1) body(0, 1) = 0 body(0, 10) = 1");
    runs.run("not in the MINUTE in which it goes", "cell(2, 0, 0) cell(0, 0, 0) way(0, 1, 105) group(0, 5, 0) aim(0, 60, 1) go(61) body(0, 2) = 0 body(0, 10) = 1");
    runs.run("not without HEADS", "cell(2, 0, 0) group(0, 1, 0) heat(0, 60) go(61) body(0, 4) = 0 body(0, 10) = 1");
  }

  private static void suns() {
    runs.run("HEAT less 3 times SHADE", "cell(0, 4, 0) group(0, 1, 0) go(3) body(0, 8) = 54");
    runs.run("HEAT that SHADE takes whole", "cell(0, 9, 0) group(0, 1, 0) heat(0, 27) go(3) body(0, 8) = 0");
    runs.run("HEAT of one more", "cell(0, 9, 0) group(0, 1, 0) heat(0, 28) go(3) body(0, 8) = 3");
    runs.run("0 at least", "cell(0, 9, 0) group(0, 1, 0) heat(0, 60) go(1) body(0, 8) = 33 heat(0, 0) go(9) body(0, 8) = 33");
    runs.run("on a WAY by HEAT", "cell(0, 9, 0) cell(0, 9, 0) way(0, 1, 130) group(0, 1, 0) aim(0, 0, 1) go(3) body(0, 8) = 90");
    runs.run("by the CELL in which it came out", "cell(0, 9, 0) cell(0, 5, 0) way(0, 1, 102) group(0, 1, 0) aim(0, 0, 1) go(3) body(0, 8) = 75");
    runs.run("once a MINUTE, with other BODIES, too", "cell(0, 0, 0) group(0, 1, 0) comes(2, 0) * 3 group(0, 1, 0) stray(0, 0, 1, -1) go(2) body(0, 8) = 60 body(4, 8) = 60");
    runs.run("HEAT of the HOUR", "cell(0, 0, 0) group(0, 1, 0) heat(0, 1) heat(1, 7) go(60) body(0, 8) = 60 go(1) body(0, 8) = 67");
    runs.run("HEAT 0", "cell(0, 0, 0) group(0, 1, 0) heat(0, 0) go(60) body(0, 8) = 0");
    runs.run("not without HEADS", "cell(0, 0, 0) group(0, 1, 0) heat(0, 60) go(26) body(0, 4) = 0 body(0, 8) = 1000 go(30) body(0, 8) = 1000");
  }

  private static void drinks() {
    runs.run("in MINUTE 0", "cell(0, 0, 10) group(0, 5, 0) go(1) body(0, 8) = 0 count(11) = 5");
    runs.run("not between", "cell(0, 0, 100) group(0, 5, 0) go(30) body(0, 8) = 870 count(11) = 95");
    runs.run("in MINUTE 30", "cell(0, 0, 100) group(0, 5, 0) go(31) body(0, 8) = 0 count(11) = 90");
    runs.run("just as many cups as HEADS", "cell(0, 0, 10) group(0, 10, 0) go(1) body(0, 8) = 0 count(11) = 0");
    runs.run("one cup less than HEADS", "cell(0, 0, 9) group(0, 10, 0) go(1) body(0, 8) = 3 count(11) = 0");
    runs.run("SUN less by SUN times that by HEADS, cut", "cell(0, 0, 50) group(0, 70, 0) go(1) body(0, 8) = 9 count(11) = 0");
    runs.run("no cups", "cell(0, 0, 0) group(0, 10, 0) go(1) body(0, 8) = 30 count(11) = 0");
    runs.run("one cup for 400", "cell(0, 0, 1) group(0, 400, 0) go(1) body(0, 8) = 30 count(11) = 0");
    runs.run("with SUN 0, too", "cell(0, 9, 30) group(0, 20, 0) heat(0, 0) go(1) body(0, 8) = 0 count(11) = 10 go(30) count(11) = 0");
    runs.run("GROUPS by numbers", "cell(0, 0, 15) group(0, 10, 0) group(0, 10, 0) go(1) body(0, 8) = 0 body(1, 8) = 15 count(11) = 0");
    runs.run("of their own CELL", "cell(0, 0, 0) cell(0, 0, 99) group(0, 10, 0) group(1, 10, 0) go(1) body(0, 8) = 30 body(1, 8) = 0 count(11) = 89");
    runs.run("not on a WAY", "cell(0, 0, 99) cell(0, 0, 99) way(0, 1, 130) group(0, 10, 0) aim(0, 0, 1) go(1) body(0, 8) = 30 count(11) = 198");
    runs.run("in the MINUTE in which it came", "cell(0, 0, 0) cell(0, 0, 99) way(0, 1, 105) group(0, 10, 0) aim(0, 25, 1) go(31) body(0, 1) = 1 body(0, 8) = 0 count(11) = 89");
    runs.run("what grew in this MINUTE, too", "cell(0, 0, 9) group(0, 10, 0) heat(0, 60) go(1) body(0, 8) = 6");
    runs.run("not without HEADS", "cell(0, 0, 0) group(0, 1, 0) heat(0, 60) go(26) body(0, 4) = 0 water(0, 9) go(30) count(11) = 9");
    runs.run("ahead of fainting", "cell(0, 0, 0) group(0, 10, 0) heat(0, 50) heat(1, 50) go(30) body(0, 8) = 1500 water(0, 10) go(1) body(0, 8) = 0 body(0, 12) = 0");
  }

  private static void faints() {
    runs.run("SUN 1500 is not above", "cell(0, 0, 0) group(0, 100, 0) go(50) body(0, 8) = 1500 body(0, 12) = 0");
    runs.run("SUN 1501 is above", "cell(0, 0, 0) group(0, 100, 0) go(20) heat(0, 29) go(31) body(0, 8) = 1499 heat(0, 2) go(1) body(0, 8) = 1000 body(0, 12) = 3");
    runs.run("SUN 1500 by 1 MINUTE less", "cell(0, 0, 0) group(0, 100, 0) go(20) heat(0, 29) go(31) heat(0, 1) go(1) body(0, 8) = 1500 body(0, 12) = 0 go(1) body(0, 8) = 1000");
    runs.run("49 HEADS: 1", "cell(0, 0, 0) group(0, 49, 0) go(51) body(0, 12) = 1 body(0, 4) = 48 body(0, 8) = 1000");
    runs.run("50 HEADS: 2", "cell(0, 0, 0) group(0, 50, 0) go(51) body(0, 12) = 2 body(0, 4) = 48");
    runs.run("99 HEADS: 2", "cell(0, 0, 0) group(0, 99, 0) go(51) body(0, 12) = 2");
    runs.run("400 HEADS: 9", "cell(0, 0, 0) group(0, 400, 0) go(51) body(0, 12) = 9 count(8) = 9 count(6) = 391");
    runs.run("HEADS at most", "cell(0, 0, 0) group(0, 1, 0) go(51) body(0, 12) = 1 body(0, 4) = 0");
    runs.run("on a WAY, too", "cell(0, 9, 0) cell(0, 9, 0) way(0, 1, 130) group(0, 90, 0) heat(0, 60) aim(0, 0, 1) go(25) body(0, 8) = 1500 body(0, 2) = 0 body(0, 12) = 0 go(1) body(0, 12) = 2");
    runs.run("SUN is 1000 then and grows on", "cell(0, 0, 0) group(0, 9, 0) go(52) body(0, 8) = 1030 go(15) body(0, 8) = 1480 heat(1, 21) go(1) body(0, 8) = 1000 body(0, 12) = 2");
  }

  private static void goes() {
    runs.run("22 1 MINUTE is the least", "go(1) = 0 count(4) = 1");
    runs.run("22 120 MINUTES are the most", "go(120) = 0 count(4) = 120");
    runs.run("22 0 MINUTES", ALL_KINDS + "go(0) ! -1");
    runs.run("22 -1 MINUTES", ALL_KINDS + "go(-1) ! -1");
    runs.run("22 121 MINUTES", ALL_KINDS + "go(121) ! -1");
    runs.runEach("22 MINUTES far off", FAR_OFF, ALL_KINDS + "go(#) ! -1");
    runs.run("22 MINUTE 4319 is the last", ALL_KINDS + "pass(4319) go(1) = 0 count(4) = 4320 record(4319, 2) = 0");
    runs.run("22 to 4320 just so", ALL_KINDS + "pass(4200) go(120) = 0 count(4) = 4320");
    runs.run("22 one beyond 4320", ALL_KINDS + "pass(4201) go(120) ! -2 go(119) = 0 count(4) = 4320");
    runs.run("22 at the end", ALL_KINDS + "pass(4320) go(1) ! -2 go(120) ! -2");
    runs.run("22 out of range ahead of beyond", ALL_KINDS + "pass(4320) go(0) ! -1 go(121) ! -1 go(-1) ! -1");
    runs.run("22 the greatest PRESS in them, not the last", TWO + "way(0, 1, 101) group(0, 30, 0) aim(0, 0, 1) go(9) = 30 go(9) = 0");
    runs.run("22 the greatest PRESS of all WAYS", THREE + "way(0, 1, 130) way(1, 2, 130) group(0, 9, 0) group(1, 8, 0) aim(0, 0, 1) aim(1, 0, 2) go(2) = 9 about(1, 5) = 8");
  }

  private static void records() {
    String pressed = NARROW + "group(0, 100, 0) aim(0, 0, 1) ";
    runs.run("23 MINUTE -1", ALL_KINDS + "go(3) record(-1, 0) ! -1");
    runs.run("23 MINUTE 0 is the first", ALL_KINDS + "go(3) record(0, 2) = 9");
    runs.run("23 MINUTE that went by last", ALL_KINDS + "go(3) record(2, 2) = 9");
    runs.run("23 NOW didn't go by", ALL_KINDS + "go(3) record(3, 2) ! -3 record(4, 2) ! -3 record(4319, 2) ! -3");
    runs.run("23 MINUTE 4320 is one that doesn't go by", ALL_KINDS + "record(4320, 2) ! -3 pass(4320) record(4320, 2) ! -3 record(4319, 2) = 0");
    runs.run("23 MINUTE 4321", ALL_KINDS + "record(4321, 2) ! -1");
    runs.runEach("23 MINUTE far off", FAR_OFF, ALL_KINDS + "go(3) record(#, 2) ! -1");
    runs.run("23 what -1", ALL_KINDS + "go(3) record(0, -1) ! -1");
    runs.run("23 what 5", ALL_KINDS + "go(3) record(0, 4) = 0 record(0, 5) ! -1");
    runs.runEach("23 what far off", FAR_OFF, ALL_KINDS + "go(3) record(0, #) ! -1");
    runs.run("23 out of range ahead of what didn't go by", ALL_KINDS + "record(0, 5) ! -1 record(9, -1) ! -1");
    runs.run("23 0 greatest PRESS", pressed + "go(3) record(0, 0) = 0 record(1, 0) = 100 record(2, 0) = 92");
    runs.run("23 1 greatest PUSH", pressed + "go(3) record(0, 1) = 0 record(1, 1) = 40 record(2, 1) = 52");
    runs.run("23 2 HEADS of all GROUPS at its end", pressed + "group(1, 5, 0) stray(0, 0, 1, -1) go(3) record(0, 2) = 105 record(1, 2) = 97 record(2, 2) = 88");
    runs.run("23 3 all that FELL so far", pressed + "go(3) record(0, 3) = 0 record(1, 3) = 8 record(2, 3) = 17");
    runs.run("23 4 all that FAINTED so far", "cell(0, 0, 0) group(0, 100, 0) group(0, 49, 0) pass(90) record(49, 4) = 0 record(50, 4) = 4 record(66, 4) = 4 record(67, 4) = 7");
    runs.run("23 greatest of all WAYS", THREE + "way(0, 1, 130) way(1, 2, 130) group(0, 62, 0) group(1, 70, 0) aim(0, 0, 1) aim(1, 0, 2) go(2) record(1, 0) = 70 record(1, 1) = 10");
    runs.run("23 it stays", pressed + "go(120) record(1, 0) = 100 pass(4200) record(1, 1) = 40 record(1, 3) = 8");
  }

  private static void pushed() {
    String pressed = NARROW + "group(0, 100, 0) aim(0, 5, 1) go(9) ";
    runs.run("24 the first MINUTE in which it was n", pressed + "pushed(0, 40) = 6 pushed(6, 40) = 6");
    runs.run("24 or more", pressed + "pushed(0, 39) = 6 pushed(0, 1) = 6 pushed(0, 41) = 7");
    runs.run("24 from one on", pressed + "pushed(7, 40) = 7 pushed(8, 1) = 8");
    runs.run("24 n 0 is any MINUTE", pressed + "pushed(0, 0) = 0 pushed(8, 0) = 8");
    runs.run("24 n -1", pressed + "pushed(0, -1) ! -1");
    runs.run("24 n least of all", pressed + "pushed(0, " + Integer.MIN_VALUE + ") ! -1");
    runs.run("24 n never reached", pressed + "pushed(0, 1000) = -4 pushed(0, " + Integer.MAX_VALUE + ") = -4");
    runs.run("24 NOW didn't go by", pressed + "pushed(9, 0) = -4 pushed(4319, 0) = -4");
    runs.run("24 MINUTE -1", pressed + "pushed(-1, 0) ! -1");
    runs.run("24 MINUTE 4320 is the last that can be asked", pressed + "pushed(4320, 0) = -4");
    runs.run("24 MINUTE 4321", pressed + "pushed(4321, 0) ! -1");
    runs.runEach("24 MINUTE far off", FAR_OFF, pressed + "pushed(#, 0) ! -1");
    runs.run("24 none went by", "pushed(0, 0) = -4");
    runs.run("24 to the last MINUTE", "pass(4320) pushed(4319, 0) = 4319 pushed(4319, 1) = -4 pushed(4320, 0) = -4");
  }

  private static void was() {
    runs.run("25 its CELL", ALL_KINDS + "go(3) was(0, 0) = 0 was(0, 2) = 0");
    runs.run("25 100 and the WAY", ALL_KINDS + "aim(0, 1, 1) go(3) was(0, 0) = 0 was(0, 1) = 100 was(0, 2) = 100");
    runs.run("25 WAY 23", TWO + "way(0, 1, 130) * 23 way(0, 1, 105) group(0, 9, 0) aim(0, 0, 1) go(6) was(0, 0) = 123 was(0, 4) = 123 was(0, 5) = 1");
    runs.run("25 CELL 15", "cell(0, 0, 0) * 16 group(15, 5, 0) go(1) was(0, 0) = 15");
    runs.run("25 BODY 39", TWO + "comes(2, 0) * 39 group(1, 5, 0) go(2) was(39, 1) = 1");
    runs.run("25 BODY 39 in the last MINUTE of all", TWO + "comes(2, 0) * 39 group(1, 5, 0) = 39 pass(4320) was(39, 4319) = 1 was(39, 0) = 1 was(39, 4318) = 1");
    runs.run("25 each MINUTE in which it walks to and fro", TWO + "way(0, 1, 101) * 24 sign(0, 3) group(0, 9, 0) aim(0, 0, 1) aim(0, 3, 0) aim(0, 5, 1)",
        "aim(0, 9, 0) go(12) was(0, 0) = 101 was(0, 1) = 1 was(0, 2) = 1 was(0, 3) = 101 was(0, 4) = 0 was(0, 5) = 101 was(0, 6) = 1",
        "was(0, 7) = 1 was(0, 8) = 1 was(0, 9) = 101 was(0, 10) = 0 was(0, 11) = 0");
    runs.run("25 MINUTES that went by otherwise behind RESTORED", TWO + "way(0, 1, 130) * 24 group(0, 9, 0) go(5) image() = 5 aim(0, 0, 1) go(9)",
        "was(0, 4) = 0 was(0, 5) = 100 was(0, 13) = 100 restore() = 5 was(0, 5) ! -3 unaim(0) = 0 sign(0, 3) aim(0, 7, 1) = 1 go(9)",
        "was(0, 4) = 0 was(0, 5) = 0 was(0, 6) = 0 was(0, 7) = 101 was(0, 8) = 101 was(0, 13) = 101");
    runs.run("25 MINUTES that went by otherwise: back from a WAY", TWO + "way(0, 1, 130) * 24 sign(0, 3) go(3) group(0, 9, 0) image() = 3 aim(0, 0, 1) go(13)",
        "was(0, 3) = 101 was(0, 15) = 101 restore() = 3 go(13) was(0, 3) = 0 was(0, 7) = 0 was(0, 8) = 0 was(0, 15) = 0 was(0, 2) ! -3");
    runs.run("25 GROUPS whose numbers are next to one another", TWO + "group(0, 9, 0) group(1, 9, 0) group(0, 9, 0) pass(4320)",
        "was(0, 0) = 0 was(0, 4319) = 0 was(1, 0) = 1 was(1, 4319) = 1 was(2, 0) = 0 was(2, 4319) = 0");
    runs.run("25 NOW didn't go by", ALL_KINDS + "go(3) was(0, 3) ! -3 was(0, 4319) ! -3");
    runs.run("25 none went by", ALL_KINDS + "was(0, 0) ! -3");
    runs.run("25 MINUTE 4320 is one that doesn't go by", ALL_KINDS + "was(0, 4320) ! -3 pass(4320) was(0, 4320) ! -3 was(0, 4319) = 0");
    runs.run("25 MINUTE 4321", ALL_KINDS + "go(3) was(0, 4321) ! -1");
    runs.run("25 MINUTE -1", ALL_KINDS + "go(3) was(0, -1) ! -1");
    runs.runEach("25 MINUTE far off", FAR_OFF, ALL_KINDS + "go(3) was(0, #) ! -1");
    runs.run("25 the GROUP wasn't there yet", ALL_KINDS + "go(3) group(1, 5, 0) = 6 go(2) was(6, 2) ! -3 was(6, 0) ! -3 was(6, 3) = 1 was(6, 4) = 1");
    runs.run("25 GROUP -1", ALL_KINDS + "go(3) was(-1, 0) ! -1");
    runs.run("25 GROUP behind the last BODY", ALL_KINDS + "go(3) was(6, 0) ! -1");
    runs.runEach("25 GROUP far off", FAR_OFF, ALL_KINDS + "go(3) was(#, 0) ! -1");
    runs.runEach("25 no GROUP, but another BODY", NO_GROUPS, ALL_KINDS + "go(3) was(#, 0) ! -1");
    runs.run("25 out of range ahead of what didn't go by", ALL_KINDS + "was(1, 0) ! -1 was(0, 4321) ! -1 was(6, 4320) ! -1");
    runs.run("25 at the end of the MINUTE", TWO + "way(0, 1, 101) group(0, 9, 0) aim(0, 0, 1) go(2) was(0, 0) = 100 was(0, 1) = 1");
  }
}
