/** Edges of promises 1 to 8, a run for a sentence. */
public final class PlainEdgesTest {
  private static final Runs runs = new Runs("PlainEdgesTest");
  private static final String TWO = "cell(0, 0, 0) cell(0, 0, 0)";
  private static final String ONE_WAY = TWO + " way(0, 1, 105)";
  private static final String ALL_CELLS = "cell(0, 0, 0) * 16";
  private static final String ALL_WAYS = TWO + " way(0, 1, 101) * 24";
  private static final int[] FAR_OFF = {Integer.MIN_VALUE, Integer.MAX_VALUE};

  public static void main(String[] args) {
    newObjects();
    cells();
    ways();
    tolds();
    signs();
    heats();
    waters();
    abouts();
    abouts2();
    fars();
    runs.end();
  }

  private static void newObjects() {
    runs.run("1 no CELLS", "count(0) = 0 water(0, 1) ! -1 far(0, 0) ! -1 group(0, 1, 0) ! -1 wave(0, 1) ! -1");
    runs.run("1 no WAYS", "count(1) = 0 about(0, 0) ! -1 sign(0, 0) ! -1 post(0) ! -1 best(1) = -4");
    runs.run("1 no BODIES", "count(2) = 0 body(0, 0) ! -1 keep(0, 1, 0) ! -1 unaim(0) ! -1 whose(0) ! -1 carry(0, 0) ! -1");
    runs.run("1 nothing that is counted", "count(3) = 0 count(5) = 0 count(6) = 0 count(7) = 0 count(8) = 0 count(9) = 0",
        "count(10) = 0 count(11) = 0 count(12) = 0");
    runs.run("NOW is 0 at first", "count(4) = 0 record(0, 0) ! -3 image() = 0");
    runs.run("HEAT is 30 at first", "heat(0, 0) = 30 heat(1, 0) = 30 heat(12, 0) = 30 heat(23, 0) = 30");
    runs.run("SHELVES hold nothing at first", "weight(0) ! -11 weight(7) ! -11 toss(3) ! -11 fault(0) ! -11 put(7, 0, 0) ! -11");
    runs.run("no TEXT is IN FORCE at first", "force(0, -1) = -4 force(4, -1) = -4 force(8, -1) = -4 force(15, -1) = -4");
    runs.run("no IMAGE at first", "restore() ! -3");
    runs.run("a MINUTE goes by where there is nothing", "go(1) = 0 count(4) = 1 record(0, 0) = 0 record(0, 1) = 0 record(0, 2) = 0");
  }

  private static void cells() {
    runs.run("2 SORTS 0 to 3", "cell(0, 0, 0) = 0 cell(1, 0, 0) = 1 cell(2, 0, 0) = 2 cell(3, 0, 0) = 3");
    runs.run("2 SORT -1", TWO, "cell(-1, 0, 0) ! -1");
    runs.run("2 SORT 4", TWO, "cell(4, 0, 0) ! -1");
    runs.runEach("2 SORT far off", FAR_OFF, TWO, "cell(#, 0, 0) ! -1");
    runs.run("2 SHADE 0 is the least", "cell(0, 0, 0) = 0 group(0, 1, 0) heat(0, 28) go(1) body(0, 8) = 28");
    runs.run("2 SHADE 9 is the greatest", "cell(0, 9, 0) = 0 group(0, 1, 0) heat(0, 28) go(1) body(0, 8) = 1");
    runs.run("2 SHADE -1", TWO, "cell(0, -1, 0) ! -1");
    runs.run("2 SHADE 10", TWO, "cell(0, 10, 0) ! -1");
    runs.runEach("2 SHADE far off", FAR_OFF, TWO, "cell(0, #, 0) ! -1");
    runs.run("2 WATER 0 is the least", "cell(0, 0, 0) = 0 count(11) = 0");
    runs.run("2 WATER 99999 is the greatest", "cell(0, 0, 99999) = 0 count(11) = 99999 water(0, 1) ! -2");
    runs.run("2 WATER -1", TWO, "cell(0, 0, -1) ! -1");
    runs.run("2 WATER 100000", TWO, "cell(0, 0, 100000) ! -1");
    runs.runEach("2 WATER far off", FAR_OFF, TWO, "cell(0, 0, #) ! -1");
    runs.run("2 CELLS are numbered as they come", "cell(3, 0, 0) = 0 cell(4, 0, 0) ! -1 cell(0, 0, 0) = 1 cell(3, 0, 0) = 2");
    runs.run("2 CELL 15 is the last", "cell(0, 0, 0) * 15 cell(0, 0, 0) = 15 count(0) = 16");
    runs.run("2 no room for a 17th CELL", ALL_CELLS, "cell(0, 0, 0) ! -2 cell(3, 9, 99999) ! -2 count(0) = 16");
    runs.run("2 a wrong SORT ahead of no room", ALL_CELLS, "cell(4, 0, 0) ! -1 cell(-1, 0, 0) ! -1");
    runs.run("2 a wrong SHADE ahead of no room", ALL_CELLS, "cell(0, 10, 0) ! -1 cell(0, -1, 0) ! -1");
    runs.run("2 wrong WATER ahead of no room", ALL_CELLS, "cell(0, 0, 100000) ! -1 cell(0, 0, -1) ! -1");
    runs.run("2 CELL 15 is a CELL as others are", ALL_CELLS, "way(15, 0, 101) = 0 group(15, 3, 0) = 0 aim(0, 0, 15) = 1",
        "water(15, 9) = 9 far(15, 0) = 1 body(0, 1) = 15 water(16, 9) ! -1 far(16, 0) ! -1 far(0, 16) ! -1");
  }

  private static void ways() {
    runs.run("3 WAYS are numbered as they come", TWO, "way(0, 1, 101) = 0 way(0, 0, 101) ! -1 way(1, 0, 101) = 1");
    runs.run("3 more than one WAY between two CELLS", TWO, "way(0, 1, 105) = 0 way(0, 1, 103) = 1 far(0, 1) = 3");
    runs.run("3 one CELL twice", TWO, "way(0, 0, 101) ! -1 way(1, 1, 101) ! -1");
    runs.run("3 CELL a -1", TWO, "way(-1, 1, 101) ! -1");
    runs.run("3 CELL a that is not there yet", TWO, "way(2, 1, 101) ! -1 cell(0, 0, 0) = 2 way(2, 1, 101) = 0");
    runs.run("3 CELL b -1", TWO, "way(0, -1, 101) ! -1");
    runs.run("3 CELL b that is not there yet", TWO, "way(0, 2, 101) ! -1 cell(0, 0, 0) = 2 way(0, 2, 101) = 0");
    runs.runEach("3 a CELL far off", FAR_OFF, TWO, "way(#, 1, 101) ! -1 way(0, #, 101) ! -1 way(#, #, 101) ! -1");
    runs.run("3 WAY 23 is the last", TWO, "way(0, 1, 101) * 23 way(0, 1, 102) = 23 count(1) = 24 about(23, 3) = 2");
    runs.run("3 no room for a 25th WAY", ALL_WAYS, "way(0, 1, 101) ! -2 way(1, 0, 6030) ! -2 count(1) = 24");
    runs.run("3 one CELL twice ahead of no room", ALL_WAYS, "way(1, 1, 101) ! -1");
    runs.run("3 no CELL ahead of no room", ALL_WAYS, "way(2, 1, 101) ! -1 way(0, 2, 101) ! -1 way(-1, 1, 101) ! -1");
    runs.run("3 told wrong ahead of no room", ALL_WAYS, "way(0, 1, 100) ! -1 way(0, 1, 131) ! -1 way(0, 1, 6101) ! -1 way(0, 1, 1) ! -1");
    runs.run("3 SIGN is 0 at first, PRESS and PUSH, too", ONE_WAY, "about(0, 4) = 0 about(0, 5) = 0 about(0, 6) = 0 about(0, 8) = 0");
    runs.run("3 what is told stays", TWO, "way(1, 0, 4217) = 0 about(0, 0) = 1 about(0, 1) = 0 about(0, 2) = 42 about(0, 3) = 17");
  }

  private static void tolds() {
    runs.run("3 WIDTH 1 and LENGTH 1 are the least", TWO, "way(0, 1, 101) = 0 about(0, 2) = 1 about(0, 3) = 1");
    runs.run("3 LENGTH 30 is the greatest", TWO, "way(0, 1, 130) = 0 about(0, 2) = 1 about(0, 3) = 30");
    runs.run("3 WIDTH 60 is the greatest", TWO, "way(0, 1, 6030) = 0 about(0, 2) = 60 about(0, 3) = 30");
    runs.run("3 LENGTH 0", TWO, "way(0, 1, 100) ! -1 way(0, 1, 6000) ! -1");
    runs.run("3 LENGTH 31", TWO, "way(0, 1, 131) ! -1 way(0, 1, 199) ! -1");
    runs.run("3 WIDTH 0", TWO, "way(0, 1, 1) ! -1 way(0, 1, 30) ! -1 way(0, 1, 0) ! -1");
    runs.run("3 WIDTH 61", TWO, "way(0, 1, 6101) ! -1 way(0, 1, 6130) ! -1");
    runs.run("3 told below 0", TWO, "way(0, 1, -101) ! -1 way(0, 1, -1) ! -1 way(0, 1, -99) ! -1");
    runs.runEach("3 told far off", FAR_OFF, TWO, "way(0, 1, #) ! -1");
  }

  private static void signs() {
    runs.run("4 SIGNS 0 to 3: what it was", ONE_WAY, "sign(0, 1) = 0 sign(0, 2) = 1 sign(0, 3) = 2 sign(0, 0) = 3 sign(0, 0) = 0");
    runs.run("4 SIGN -1", ONE_WAY, "sign(0, 2) = 0 sign(0, -1) ! -1 about(0, 4) = 2");
    runs.run("4 SIGN 4", ONE_WAY, "sign(0, 2) = 0 sign(0, 4) ! -1 about(0, 4) = 2");
    runs.runEach("4 SIGN far off", FAR_OFF, ONE_WAY, "sign(0, #) ! -1");
    runs.run("4 WAY -1", ONE_WAY, "sign(-1, 0) ! -1");
    runs.run("4 WAY behind the last", ONE_WAY, "sign(1, 0) ! -1 way(0, 1, 101) = 1 sign(1, 1) = 0");
    runs.runEach("4 WAY far off", FAR_OFF, ONE_WAY, "sign(#, 0) ! -1");
    runs.run("4 SIGN of WAY 23", ALL_WAYS, "sign(23, 3) = 0 about(23, 4) = 3 sign(24, 3) ! -1");
    runs.run("4 SIGN 0 is open both ways", ONE_WAY, "far(0, 1) = 5 far(1, 0) = 5");
    runs.run("4 SIGN 1 is open from a to b alone", ONE_WAY, "sign(0, 1) = 0 far(0, 1) = 5 far(1, 0) = -4");
    runs.run("4 SIGN 2 is open from b to a alone", ONE_WAY, "sign(0, 2) = 0 far(0, 1) = -4 far(1, 0) = 5");
    runs.run("4 SIGN 3 is shut", ONE_WAY, "sign(0, 3) = 0 far(0, 1) = -4 far(1, 0) = -4");
    runs.run("4 SIGN of a WAY told from the greater CELL", TWO, "way(1, 0, 105) sign(0, 1) far(1, 0) = 5 far(0, 1) = -4");
  }

  private static void heats() {
    runs.run("5 HOUR 0 is the first", "heat(0, 7) = 30 heat(0, 8) = 7");
    runs.run("5 HOUR 23 is the last", "heat(23, 7) = 30 heat(23, 8) = 7");
    runs.run("5 HOUR -1", "heat(-1, 7) ! -1");
    runs.run("5 HOUR 24", "heat(24, 7) ! -1 heat(0, 30) = 30");
    runs.runEach("5 HOUR far off", FAR_OFF, "heat(#, 7) ! -1");
    runs.run("5 HEAT 0 is the least", "heat(3, 0) = 30 heat(3, 30) = 0");
    runs.run("5 HEAT 60 is the greatest", "heat(3, 60) = 30 heat(3, 30) = 60");
    runs.run("5 HEAT -1", "heat(3, 5) = 30 heat(3, -1) ! -1 heat(3, 5) = 5");
    runs.run("5 HEAT 61", "heat(3, 5) = 30 heat(3, 61) ! -1 heat(3, 5) = 5");
    runs.runEach("5 HEAT far off", FAR_OFF, "heat(3, #) ! -1");
    runs.run("5 HEAT of one HOUR is not that of another", "heat(3, 5) = 30 heat(2, 30) = 30 heat(4, 30) = 30");
    runs.run("HOUR 1 begins with MINUTE 60", "cell(0, 0, 0) heat(0, 1) heat(1, 10) group(0, 1, 0) go(60) body(0, 8) = 60 go(1) body(0, 8) = 70");
    runs.run("HOUR 23 is the last, HOUR 0 comes behind it", "cell(0, 0, 99999) heat(23, 10) heat(0, 1) pass(1410) group(0, 1, 0)",
        "go(30) body(0, 8) = 290 tell(\"h=0&d=1&m=0&x=1\") = 0 holds(0, -1, -1) = 1 go(1) body(0, 8) = 0 go(1) body(0, 8) = 1");
  }

  private static void waters() {
    runs.run("6 1 cup is the least", TWO, "water(0, 1) = 1 count(11) = 1");
    runs.run("6 20000 cups are the most", TWO, "water(1, 20000) = 20000 water(1, 20000) = 40000 count(11) = 40000");
    runs.run("6 0 cups", TWO, "water(0, 0) ! -1");
    runs.run("6 -1 cups", "cell(0, 0, 9) water(0, -1) ! -1");
    runs.run("6 20001 cups", TWO, "water(0, 20001) ! -1");
    runs.runEach("6 cups far off", FAR_OFF, "cell(0, 0, 9) water(0, #) ! -1");
    runs.run("6 CELL -1", TWO, "water(-1, 1) ! -1");
    runs.run("6 CELL behind the last", TWO, "water(2, 1) ! -1");
    runs.runEach("6 CELL far off", FAR_OFF, TWO, "water(#, 1) ! -1");
    runs.run("6 99999 is not above", "cell(0, 0, 79999) water(0, 20000) = 99999");
    runs.run("6 100000 is above", "cell(0, 0, 80000) water(0, 20000) ! -2 water(0, 19999) = 99999");
    runs.run("6 1 cup above", "cell(0, 0, 99999) water(0, 1) ! -2 count(11) = 99999");
    runs.run("6 out of range ahead of above", "cell(0, 0, 99999) water(0, 0) ! -1 water(0, 20001) ! -1 water(1, 1) ! -1");
    runs.run("6 WATER of another CELL does not count", "cell(0, 0, 99999) cell(0, 0, 1) water(1, 20000) = 20001");
    runs.run("6 what was drunk leaves room", "cell(0, 0, 99999) group(0, 10, 0) go(1) water(0, 11) ! -2 water(0, 10) = 99999");
  }

  private static void abouts() {
    runs.run("7 what -1", ONE_WAY, "about(0, -1) ! -1");
    runs.run("7 what 9", ONE_WAY, "about(0, 8) = 0 about(0, 9) ! -1");
    runs.runEach("7 what far off", FAR_OFF, ONE_WAY, "about(0, #) ! -1");
    runs.run("7 WAY -1", ONE_WAY, "about(-1, 0) ! -1");
    runs.run("7 WAY behind the last", ONE_WAY, "about(0, 0) = 0 about(1, 0) ! -1");
    runs.runEach("7 WAY far off", FAR_OFF, ONE_WAY, "about(#, 0) ! -1");
    runs.run("7 WAY 23", ALL_WAYS, "about(23, 1) = 1 about(24, 1) ! -1");
    runs.run("7 its CELLS as they were told", TWO, "way(1, 0, 2509) about(0, 0) = 1 about(0, 1) = 0");
    runs.run("7 WIDTH and LENGTH", TWO, "way(1, 0, 2509) about(0, 2) = 25 about(0, 3) = 9");
    runs.run("7 PRESS of the MINUTE that went by last", TWO, "way(0, 1, 230) group(0, 90, 0) aim(0, 0, 1) about(0, 5) = 0",
        "go(1) about(0, 5) = 0 go(1) about(0, 5) = 45 sign(0, 3) unaim(0) about(0, 5) = 45");
    runs.run("7 PUSH of the MINUTE that went by last", TWO, "way(0, 1, 130) group(0, 61, 0) aim(0, 0, 1)",
        "go(1) about(0, 6) = 0 go(1) about(0, 6) = 1");
    runs.run("7 PRESS of a MINUTE without any is 0 again", TWO, "way(0, 1, 101) group(0, 9, 0) aim(0, 0, 1)",
        "go(2) about(0, 5) = 9 go(1) about(0, 5) = 0");
  }

  private static void abouts2() {
    runs.run("7 HEADS on it now, not in the MINUTE", TWO, "way(0, 1, 230) group(0, 90, 0) aim(0, 0, 1) about(0, 7) = 0",
        "go(1) about(0, 7) = 90 about(0, 5) = 0");
    runs.run("7 HEADS of all GROUPS on it", TWO, "way(0, 1, 230) group(0, 90, 0) group(0, 7, 0) group(0, 5, 0)",
        "aim(0, 0, 1) aim(2, 0, 1) go(1) about(0, 7) = 95");
    runs.run("7 HEADS on it less those that FELL", TWO, "way(0, 1, 130) group(0, 100, 0) aim(0, 0, 1) go(2) about(0, 7) = 92");
    runs.run("7 HEADS on it with one that was FOUND", TWO, "way(0, 1, 230) group(0, 90, 0) aim(0, 1, 1) stray(0, 0, 3, -1) go(2)",
        "about(0, 7) = 90 found(1, 0) = 91 about(0, 7) = 91");
    runs.run("7 SHUT in the MINUTE by SIGN 3", ONE_WAY, "sign(0, 3) about(0, 8) = 0 go(1) about(0, 8) = 1 sign(0, 0) about(0, 8) = 1",
        "go(1) about(0, 8) = 0");
    runs.run("7 SIGNS 1 and 2 do not shut", ONE_WAY, "sign(0, 1) go(1) about(0, 8) = 0 sign(0, 2) go(1) about(0, 8) = 0");
    runs.run("7 SHUT in the MINUTE by a POST", ONE_WAY, "post(0) tell(\"m=1\") = 0 force(8, 0) go(1) about(0, 8) = 0",
        "go(1) about(0, 8) = 1 go(1) about(0, 8) = 0");
    runs.run("7 a WAY that came since has 0", TWO, "way(0, 1, 101) sign(0, 3) go(1) way(0, 1, 101) about(1, 5) = 0 about(1, 6) = 0 about(1, 8) = 0");
  }

  private static void fars() {
    runs.run("8 0 to itself", "cell(0, 0, 0) far(0, 0) = 0");
    runs.run("8 0 to itself with WAYS, too", ONE_WAY, "far(0, 0) = 0 far(1, 1) = 0 sign(0, 3) far(1, 1) = 0");
    runs.run("8 there is none", TWO, "far(0, 1) = -4 way(0, 1, 109) far(0, 1) = 9");
    runs.run("8 CELL a -1", ONE_WAY, "far(-1, 0) ! -1");
    runs.run("8 CELL b -1", ONE_WAY, "far(0, -1) ! -1");
    runs.run("8 CELL behind the last", ONE_WAY, "far(2, 0) ! -1 far(0, 2) ! -1 far(2, 2) ! -1");
    runs.runEach("8 CELL far off", FAR_OFF, ONE_WAY, "far(#, 0) ! -1 far(0, #) ! -1 far(#, #) ! -1");
    runs.run("8 the least, not the first", TWO, "cell(0, 0, 0) way(0, 2, 112) way(0, 1, 105) way(1, 2, 106) far(0, 2) = 11 far(2, 0) = 11");
    runs.run("8 the least, not that of fewest WAYS", TWO, "cell(0, 0, 0) way(0, 1, 101) way(1, 2, 101) way(0, 2, 103) far(0, 2) = 2");
    runs.run("8 by SIGNS as they are now", TWO, "cell(0, 0, 0) way(0, 2, 112) way(0, 1, 105) way(1, 2, 106) sign(1, 2) far(0, 2) = 12",
        "far(2, 0) = 11 sign(1, 0) far(0, 2) = 11");
    runs.run("8 what POSTS shut does not count", ONE_WAY, "post(0) tell(\"0=0\") = 0 force(8, 0) go(1) about(0, 8) = 1 far(0, 1) = 5");
    runs.run("8 PRESS does not count", TWO, "way(0, 1, 105) group(0, 100, 0) aim(0, 0, 1) go(3) far(0, 1) = 5");
    runs.run("8 a CELL and a WAY that came since", ONE_WAY, "far(0, 1) = 5 cell(0, 0, 0) = 2 far(2, 0) = -4 far(0, 2) = -4 far(2, 2) = 0 way(2, 0, 104) far(1, 2) = 9");
    runs.run("8 all CELLS in a line", ALL_CELLS, "way(0, 1, 130) way(1, 2, 130) way(2, 3, 130) way(3, 4, 130) way(4, 5, 130)",
        "way(5, 6, 130) way(6, 7, 130) way(7, 8, 130) way(8, 9, 130) way(9, 10, 130) way(10, 11, 130) way(11, 12, 130)",
        "way(12, 13, 130) way(13, 14, 130) way(14, 15, 130) far(0, 15) = 450 far(15, 0) = 450 sign(7, 1) far(15, 0) = -4 far(0, 15) = 450");
    runs.run("8 CELLS in a line against their numbers", "cell(0, 0, 0) * 6", "way(0, 4, 102) way(4, 1, 103) way(1, 5, 104) way(5, 2, 105) way(2, 3, 106)",
        "far(0, 3) = 20 far(3, 0) = 20 far(4, 2) = 12");
  }
}
