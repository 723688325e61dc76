/** Edges of STRAYS, LITTERS and COUNTERS and of promises 26 to 32, a run for a sentence. */
public final class StraysEdgesTest {
  private static final Runs runs = new Runs("StraysEdgesTest");
  private static final String TWO = "cell(0, 0, 99999) cell(0, 0, 99999) ";
  private static final String ONE_WAY = TWO + "way(0, 1, 105) ";
  /** GROUP 0, STRAY 1, BUS 2, TRAIN 3, POST 4, LITTER 5. */
  private static final String ALL_KINDS =
      ONE_WAY + "group(0, 9, 10) stray(0, 1, 20, -1) comes(2, 0) comes(3, 0) post(0) comes(5, 0) ";
  private static final String FOUND = ALL_KINDS + "found(1, 0) ";
  private static final int[] FAR_OFF = {Integer.MIN_VALUE, Integer.MAX_VALUE};
  private static final int[] NO_GROUPS = {1, 2, 3, 4, 5};
  private static final int[] NO_STRAYS = {0, 2, 3, 4, 5};
  private static final int[] NO_LITTERS = {0, 1, 2, 3, 4};

  public static void main(String[] args) {
    canBe();
    within120();
    whose();
    sure();
    bring();
    bringRefusals();
    found();
    foundRefusals();
    carry();
    carryRefusals();
    wrong();
    closes();
    runs.end();
  }

  private static void canBe() {
    runs.run("26 a GROUP of its TONGUE in its CELL", TWO + "group(0, 5, 20) stray(0, 2, 7, -1) whose(1) = 1");
    runs.run("26 a GROUP of its TONGUE in another CELL", TWO + "group(1, 5, 20) stray(0, 2, 7, -1) whose(1) = 0");
    runs.run("26 a GROUP of another TONGUE in its CELL", TWO + "group(0, 5, 10) group(0, 5, 30) stray(0, 2, 7, -1) whose(2) = 0");
    runs.run("26 SCHOOLS do not matter", TWO + "group(0, 5, 20) group(0, 5, 23) stray(0, 2, 7, -1) whose(2) = 3");
    runs.run("26 its GROUP known: what it CAN BE of stays so", TWO + "group(0, 5, 20) group(0, 5, 20) stray(0, 2, 7, 1) whose(2) = 3");
    runs.run("26 its GROUP known, but of another TONGUE", TWO + "group(0, 5, 10) stray(0, 2, 7, 0) whose(1) = 0 sure(1) = -4");
    runs.run("26 a GROUP without HEADS, too", "cell(0, 0, 0) group(0, 1, 20) heat(0, 60) go(26) body(0, 4) = 0 stray(0, 2, 7, -1) whose(1) = 1");
    runs.run("26 none", TWO + "stray(0, 2, 7, -1) whose(0) = 0 sure(0) = -4");
    runs.run("26 a GROUP that came since", TWO + "stray(0, 2, 7, -1) whose(0) = 0 group(0, 5, 20) whose(0) = 2");
    runs.run("26 a GROUP that was there ahead of the STRAY", ONE_WAY + "group(0, 5, 20) aim(0, 3, 1) go(9) body(0, 1) = 1 stray(0, 2, 7, -1) whose(1) = 1");
    runs.run("26 a GROUP on a WAY that was there", ONE_WAY + "group(0, 5, 20) aim(0, 3, 1) go(4) body(0, 2) = 0 stray(0, 2, 7, -1) whose(1) = 1 stray(1, 2, 7, -1) whose(2) = 0");
    runs.run("26 there at no MINUTE's end", ONE_WAY + "group(0, 5, 20) aim(0, 0, 1) go(1) stray(0, 2, 7, -1) whose(1) = 0");
    runs.run("26 through a CELL in one MINUTE is at no MINUTE's end there", TWO + "cell(0, 0, 0) way(0, 1, 101) way(1, 2, 101) group(0, 5, 20) aim(0, 0, 2) go(3) body(0, 1) = 2 stray(1, 2, 7, -1) whose(1) = 0");
    runs.run("26 there for one MINUTE's end", TWO + "cell(0, 0, 0) way(0, 1, 101) way(1, 2, 101) group(0, 5, 20) aim(0, 0, 1) aim(0, 2, 2) go(9) was(0, 1) = 1 was(0, 2) = 101 stray(1, 2, 7, -1) whose(1) = 1");
  }

  private static void within120() {
    String left = ONE_WAY + "group(0, 5, 20) aim(0, 5, 1) stray(0, 2, 7, -1) go(5) was(0, 4) = 0 ";
    runs.run("26 120 MINUTES behind", left + "go(119) count(4) = 124 was(0, 5) = 100 whose(1) = 1 sure(1) = 0");
    runs.run("26 121 MINUTES behind", left + "go(120) count(4) = 125 whose(1) = 0 sure(1) = -4");
    runs.run("26 MINUTE 0 at NOW 120", ONE_WAY + "group(0, 5, 20) aim(0, 1, 1) stray(0, 2, 7, -1) go(120) whose(1) = 1");
    runs.run("26 MINUTE 0 at NOW 121", ONE_WAY + "group(0, 5, 20) aim(0, 1, 1) stray(0, 2, 7, -1) go(120) go(1) whose(1) = 0");
    runs.run("26 there now for long", ONE_WAY + "group(0, 5, 20) stray(0, 2, 7, -1) pass(500) whose(1) = 1");
    runs.run("26 there again now", left + "aim(0, 20, 1) aim(0, 200, 0) pass(195) whose(1) = 0 go(1) body(0, 2) = 0 whose(1) = 0 go(5) body(0, 1) = 0 whose(1) = 1");
    runs.run("26 a GROUP's first MINUTE is that in which it came", ONE_WAY + "comes(2, 0) go(9) group(1, 5, 20) = 1 stray(0, 2, 7, -1) = 2 whose(2) = 0 go(3) whose(2) = 0");
    runs.run("26 what another one was by its number does not count", ONE_WAY + "image() group(0, 5, 20) go(5) restore() group(1, 5, 20) stray(0, 2, 7, -1) go(9) whose(1) = 0");
    runs.run("26 what went by behind THE IMAGE does not count", ONE_WAY + "group(0, 5, 20) aim(0, 0, 1) stray(1, 2, 7, -1) go(1) image() go(9) whose(1) = 1 restore() whose(1) = 0");
    runs.run("26 at the end of all MINUTES", ONE_WAY + "group(0, 5, 20) stray(0, 2, 7, -1) aim(0, 4201, 1) pass(4320) whose(1) = 1");
    runs.run("26 just too early at the end of all MINUTES", ONE_WAY + "group(0, 5, 20) stray(0, 2, 7, -1) aim(0, 4200, 1) pass(4320) was(0, 4199) = 0 whose(1) = 0");
  }

  private static void whose() {
    runs.run("26 bits of BODIES", TWO + "comes(2, 0) * 3 group(0, 5, 20) stray(0, 2, 7, -1) group(0, 5, 20) whose(4) = 40");
    runs.run("26 BODY 30 is the last bit", TWO + "stray(0, 2, 7, -1) comes(2, 0) * 29 group(0, 5, 20) = 30 whose(0) = 1073741824");
    runs.run("26 BODY 31 is left out", TWO + "stray(0, 2, 7, -1) comes(2, 0) * 30 group(0, 5, 20) = 31 whose(0) = 0 sure(0) = 31");
    runs.run("26 BODY 32 is not BODY 0", TWO + "group(0, 5, 0) stray(0, 2, 7, -1) comes(2, 0) * 30 group(0, 5, 20) = 32 whose(1) = 0 sure(1) = 32");
    runs.run("26 all 31 bits", TWO + "group(0, 5, 20) * 31 stray(0, 2, 7, -1) whose(31) = 2147483647");
    runs.run("26 STRAY -1", ALL_KINDS + "whose(-1) ! -1");
    runs.run("26 STRAY behind the last BODY", ALL_KINDS + "whose(6) ! -1");
    runs.runEach("26 STRAY far off", FAR_OFF, ALL_KINDS + "whose(#) ! -1");
    runs.runEach("26 no STRAY, but another BODY", NO_STRAYS, ALL_KINDS + "whose(#) ! -1");
    runs.run("26 it is FOUND", FOUND + "whose(1) ! -3");
    runs.run("26 it is FOUND, and a GROUP has no CELL either", FOUND + "aim(0, 0, 1) go(1) body(0, 1) = -4 whose(1) ! -3");
  }

  private static void sure() {
    runs.run("27 just one such", TWO + "group(1, 5, 20) group(0, 5, 20) group(0, 5, 10) stray(0, 2, 7, -1) sure(3) = 1");
    runs.run("27 none", TWO + "group(1, 5, 20) group(0, 5, 10) stray(0, 2, 7, -1) sure(2) = -4");
    runs.run("27 two", TWO + "group(0, 5, 20) group(0, 5, 20) stray(0, 2, 7, -1) sure(2) = -4");
    runs.run("27 GROUP 0", TWO + "group(0, 5, 20) stray(0, 2, 7, -1) sure(1) = 0");
    runs.run("27 three", TWO + "group(0, 5, 20) group(0, 5, 20) group(0, 5, 20) stray(0, 2, 7, -1) sure(3) = -4");
    runs.run("27 two, its GROUP known", TWO + "group(0, 5, 20) group(0, 5, 20) stray(0, 2, 7, 1) sure(2) = -4");
    runs.run("27 one, another one known", TWO + "group(0, 5, 20) group(1, 5, 20) stray(0, 2, 7, 1) sure(2) = 0");
    runs.run("27 BODY 39", TWO + "stray(0, 2, 7, -1) comes(2, 0) * 38 group(0, 5, 20) = 39 sure(0) = 39");
    runs.run("27 one there now, another one within 120 MINUTES", ONE_WAY + "group(0, 5, 20) group(0, 5, 20) aim(0, 5, 1) stray(0, 2, 7, -1) go(120) sure(2) = -4 go(4) sure(2) = -4 go(1) sure(2) = 1");
    runs.run("27 STRAY -1", ALL_KINDS + "sure(-1) ! -1");
    runs.run("27 STRAY behind the last BODY", ALL_KINDS + "sure(6) ! -1");
    runs.runEach("27 STRAY far off", FAR_OFF, ALL_KINDS + "sure(#) ! -1");
    runs.runEach("27 no STRAY, but another BODY", NO_STRAYS, ALL_KINDS + "sure(#) ! -1");
    runs.run("27 it is FOUND", FOUND + "sure(1) ! -3");
    runs.run("27 it is FOUND, and a GROUP has no CELL either", FOUND + "aim(0, 0, 1) go(1) body(0, 1) = -4 sure(1) ! -3");
    runs.run("27 FOUND ahead of none", ALL_KINDS + "group(1, 9, 10) found(1, 0) sure(1) ! -3");
  }

  private static void bring() {
    String three = TWO + "cell(0, 0, 0) way(0, 1, 105) way(1, 2, 107) ";
    runs.run("28 the fewest MINUTES", three + "way(0, 2, 111) group(2, 5, 20) stray(0, 2, 7, -1) bring(1, 0) = 11");
    runs.run("28 from the STRAY's CELL", three + "group(0, 5, 20) group(1, 5, 20) group(2, 5, 20) stray(1, 2, 7, -1) stray(2, 2, 7, -1) bring(3, 0) = 5 bring(3, 1) = 0 bring(3, 2) = 7 bring(4, 0) = 12 bring(4, 1) = 7 bring(4, 2) = 0");
    runs.run("28 in one CELL", three + "group(0, 5, 20) stray(0, 2, 7, -1) bring(1, 0) = 0");
    runs.run("28 no way", three + "cell(0, 0, 0) group(3, 5, 20) stray(0, 2, 7, -1) bring(1, 0) = -4");
    runs.run("28 as SIGNS let, from the STRAY", three + "sign(0, 2) group(2, 5, 20) stray(0, 2, 7, -1) bring(1, 0) = -4");
    runs.run("28 as SIGNS let, to the GROUP", three + "sign(0, 1) group(2, 5, 20) stray(0, 2, 7, -1) bring(1, 0) = 12");
    runs.run("28 no PRESS, no POSTS", TWO + "way(0, 1, 130) group(0, 100, 0) aim(0, 0, 1) group(1, 5, 20) stray(0, 2, 7, -1) post(0) tell(\"0=0\") = 0 force(8, 0) go(3) about(0, 8) = 1 bring(2, 1) = 30");
    runs.run("28 on a WAY: to that where it comes out", three + "group(2, 5, 20) aim(0, 0, 1) stray(0, 2, 7, -1) go(1) body(0, 2) = 1 bring(1, 0) = 5");
    runs.run("28 on a WAY away from it", three + "group(0, 5, 20) aim(0, 0, 1) stray(0, 2, 7, -1) go(3) body(0, 2) = 0 bring(1, 0) = 5");
    runs.run("28 on a WAY towards it", three + "group(1, 5, 20) aim(0, 0, 0) stray(0, 2, 7, -1) go(3) body(0, 2) = 0 bring(1, 0) = 0");
    runs.run("28 whatever it CAN BE of", three + "group(2, 5, 30) stray(0, 2, 7, -1) whose(1) = 0 bring(1, 0) = 12");
  }

  private static void bringRefusals() {
    runs.run("28 STRAY -1", ALL_KINDS + "bring(-1, 0) ! -1");
    runs.run("28 STRAY behind the last BODY", ALL_KINDS + "bring(6, 0) ! -1");
    runs.runEach("28 STRAY far off", FAR_OFF, ALL_KINDS + "bring(#, 0) ! -1");
    runs.runEach("28 no STRAY, but another BODY", NO_STRAYS, ALL_KINDS + "bring(#, 0) ! -1");
    runs.run("28 GROUP -1", ALL_KINDS + "bring(1, -1) ! -1");
    runs.run("28 GROUP behind the last BODY", ALL_KINDS + "bring(1, 6) ! -1");
    runs.runEach("28 GROUP far off", FAR_OFF, ALL_KINDS + "bring(1, #) ! -1");
    runs.runEach("28 no GROUP, but another BODY", NO_GROUPS, ALL_KINDS + "bring(1, #) ! -1");
    runs.run("28 it is FOUND", FOUND + "bring(1, 0) ! -3");
    runs.run("28 no GROUP ahead of FOUND", FOUND + "bring(1, 2) ! -1 bring(1, 6) ! -1");
    runs.run("28 FOUND ahead of no way", FOUND + "cell(0, 0, 0) group(2, 5, 0) = 6 bring(1, 6) ! -3");
  }

  private static void found() {
    runs.run("29 HEADS are one more", TWO + "group(0, 5, 20) stray(0, 2, 7, -1) found(1, 0) = 6 body(0, 4) = 6 count(6) = 6");
    runs.run("29 the STRAY has no CELL and no HEADS any more", TWO + "group(0, 5, 20) stray(0, 2, 7, -1) found(1, 0) = 6 body(1, 1) = -4 body(1, 4) = 0 count(10) = 0 count(2) = 2");
    runs.run("29 known to be of it", TWO + "group(0, 5, 20) stray(0, 2, 7, 0) found(1, 0) = 6");
    runs.run("29 one of several of which it CAN BE", TWO + "group(0, 5, 20) group(0, 5, 20) stray(0, 2, 7, -1) sure(2) = -4 found(2, 1) = 6");
    runs.run("29 by a GROUP that was there", ONE_WAY + "group(0, 5, 20) aim(0, 5, 1) stray(0, 2, 7, -1) go(120) go(4) found(1, 0) = 6");
    runs.run("29 by a GROUP on a WAY", ONE_WAY + "group(0, 5, 20) aim(0, 5, 1) stray(0, 2, 7, -1) go(7) body(0, 2) = 0 found(1, 0) = 6 about(0, 7) = 6");
    runs.run("29 by a GROUP without HEADS", "cell(0, 0, 0) group(0, 1, 20) heat(0, 60) go(26) stray(0, 2, 7, -1) found(1, 0) = 1");
    runs.run("29 by BODY 31", TWO + "comes(2, 0) * 31 group(0, 5, 20) = 31 stray(0, 2, 7, -1) found(32, 31) = 6");
    runs.run("29 it CAN'T BE of that: CELL", TWO + "group(1, 5, 20) stray(0, 2, 7, -1) found(1, 0) ! -3");
    runs.run("29 it CAN'T BE of that: TONGUE", TWO + "group(0, 5, 30) stray(0, 2, 7, -1) found(1, 0) ! -3");
    runs.run("29 it CAN'T BE of that any more", ONE_WAY + "group(0, 5, 20) aim(0, 5, 1) stray(0, 2, 7, -1) go(120) go(5) found(1, 0) ! -3");
    runs.run("29 it is known to be of another", TWO + "group(0, 5, 20) group(0, 5, 20) stray(0, 2, 7, 1) found(2, 0) ! -3 found(2, 1) = 6");
    runs.run("29 it is known to be of that, but CAN'T BE", TWO + "group(1, 5, 20) stray(0, 2, 7, 0) found(1, 0) ! -3");
    runs.run("29 it is FOUND, and the GROUP has no CELL either", FOUND + "aim(0, 0, 1) go(1) body(0, 1) = -4 found(1, 0) ! -3 body(0, 4) = 10");
    runs.run("29 it is FOUND", FOUND + "found(1, 0) ! -3 body(0, 4) = 10");
    runs.run("29 it is FOUND by another", FOUND + "group(0, 5, 10) = 6 found(1, 6) ! -3");
  }

  private static void foundRefusals() {
    runs.run("29 STRAY -1", ALL_KINDS + "found(-1, 0) ! -1");
    runs.run("29 STRAY behind the last BODY", ALL_KINDS + "found(6, 0) ! -1");
    runs.runEach("29 STRAY far off", FAR_OFF, ALL_KINDS + "found(#, 0) ! -1");
    runs.runEach("29 no STRAY, but another BODY", NO_STRAYS, ALL_KINDS + "found(#, 0) ! -1");
    runs.run("29 GROUP -1", ALL_KINDS + "found(1, -1) ! -1");
    runs.run("29 GROUP behind the last BODY", ALL_KINDS + "found(1, 6) ! -1");
    runs.runEach("29 GROUP far off", FAR_OFF, ALL_KINDS + "found(1, #) ! -1");
    runs.runEach("29 no GROUP, but another BODY", NO_GROUPS, ALL_KINDS + "found(1, #) ! -1");
    runs.run("29 no GROUP ahead of FOUND", FOUND + "found(1, 2) ! -1 found(1, -1) ! -1 found(1, 6) ! -1");
  }

  private static void carry() {
    String fainted = "cell(0, 0, 0) cell(0, 0, 0) group(0, 100, 0) comes(5, 0) go(51) body(0, 12) = 3 ";
    runs.run("30 one that FAINTED", fainted + "carry(1, 0) = 1 count(9) = 1 body(0, 13) = 1");
    runs.run("30 all that FAINTED", fainted + "carry(1, 0) = 1 carry(1, 0) = 2 carry(1, 0) = 3 carry(1, 0) ! -3 count(9) = 3");
    runs.run("30 HEADS stay", fainted + "carry(1, 0) = 1 body(0, 4) = 97 body(0, 12) = 3 count(8) = 3");
    runs.run("30 one that FELL", "cell(0, 0, 0) cell(0, 0, 99999) way(0, 1, 101) group(0, 90, 0) aim(0, 0, 1) comes(5, 1) go(2) body(0, 11) = 5 carry(1, 0) ! -3 go(3) body(0, 1) = 1 body(0, 11) = 21 body(0, 12) = 0 carry(1, 0) = 1");
    runs.run("30 nobody FELL or FAINTED", TWO + "group(0, 100, 0) comes(5, 0) carry(1, 0) ! -3");
    runs.run("30 one litter, two GROUPS", "cell(0, 0, 0) group(0, 100, 0) group(0, 9, 0) comes(5, 0) go(51) carry(2, 1) = 1 carry(2, 1) ! -3 carry(2, 0) = 1 count(9) = 2");
    runs.run("30 another litter", fainted + "comes(5, 0) carry(1, 0) = 1 carry(2, 0) = 2");
    runs.run("30 they aren't in one CELL", fainted + "comes(5, 1) = 2 carry(2, 0) ! -3");
    runs.run("30 the GROUP is on a WAY", fainted + "way(0, 1, 130) aim(0, 0, 1) go(1) body(0, 2) = 0 carry(1, 0) ! -3");
    runs.run("30 of a GROUP without HEADS", "cell(0, 0, 0) group(0, 1, 0) comes(5, 0) go(51) body(0, 4) = 0 carry(1, 0) = 1 carry(1, 0) ! -3");
  }

  private static void carryRefusals() {
    runs.run("30 LITTER -1", ALL_KINDS + "carry(-1, 0) ! -1");
    runs.run("30 LITTER behind the last BODY", ALL_KINDS + "carry(6, 0) ! -1");
    runs.runEach("30 LITTER far off", FAR_OFF, ALL_KINDS + "carry(#, 0) ! -1");
    runs.runEach("30 no LITTER, but another BODY", NO_LITTERS, ALL_KINDS + "carry(#, 0) ! -1");
    runs.run("30 GROUP -1", ALL_KINDS + "carry(5, -1) ! -1");
    runs.run("30 GROUP behind the last BODY", ALL_KINDS + "carry(5, 6) ! -1");
    runs.runEach("30 GROUP far off", FAR_OFF, ALL_KINDS + "carry(5, #) ! -1");
    runs.runEach("30 no GROUP, but another BODY", NO_GROUPS, ALL_KINDS + "carry(5, #) ! -1");
  }

  /** GROUPS of 30 and 20 HEADS on WAYS 0 (0 to 1) and 2 (0 to 2). */
  private static final String COUNTED = TWO + "cell(0, 0, 0) cell(0, 0, 0) way(0, 1, 130) way(1, 2, 130) way(0, 2, 130) "
      + "group(0, 30, 0) group(0, 20, 0) aim(0, 0, 1) aim(1, 0, 2) go(1) ";

  private static void wrong() {
    runs.run("31 none", COUNTED + "ints(0, 30, 0, 20) wrong(0) = -4");
    runs.run("31 WAY 0", COUNTED + "ints(0, 29, 0, 20) wrong(0) = 0");
    runs.run("31 the last WAY", COUNTED + "ints(0, 30, 0, 21) wrong(0) = 2");
    runs.run("31 the least of several", COUNTED + "ints(0, 30, 1, 21) wrong(0) = 1");
    runs.run("31 below 0", COUNTED + "ints(0, 30, -1, 20) wrong(0) = 1");
    runs.run("31 HEADS now, not PRESS", COUNTED + "about(0, 5) = 0 ints(0, 30, 0, 20) wrong(0) = -4 sign(0, 3) go(1) about(0, 5) = 30 wrong(0) = -4");
    runs.run("31 what a longer ROW held does not count", COUNTED + "ints(0, 30, 0, 20, 9, 9) ints(0, 30, 0, 20) wrong(0) = -4 closes(0, 0) = 1");
    runs.run("31 no WAYS, an empty ROW", "row(0, 2, 0) wrong(0) = -4");
    runs.run("31 no WAYS, one too many", "row(0, 2, 1) wrong(0) ! -13");
    runs.run("31 one too few", COUNTED + "ints(0, 30, 0) wrong(0) ! -13");
    runs.run("31 one too many", COUNTED + "ints(0, 30, 0, 20, 0) wrong(0) ! -13");
    runs.run("31 all 24 WAYS", TWO + "way(0, 1, 130) * 24 row(0, 2, 24) wrong(0) = -4 put(0, 23, 1) wrong(0) = 23 row(0, 2, 25) wrong(0) ! -13");
    runs.run("31 SHELF -1", COUNTED + "wrong(-1) ! -1");
    runs.run("31 SHELF 7 is the last", COUNTED + "ints(7, 30, 0, 20) wrong(7) = -4 wrong(8) ! -1");
    runs.runEach("31 SHELF far off", FAR_OFF, COUNTED + "wrong(#) ! -1");
    runs.run("31 nothing is held", COUNTED + "wrong(0) ! -11");
    runs.run("31 a BODY", COUNTED + "keep(0, 1, 0) wrong(0) ! -12");
    runs.run("31 a ROW of bytes", COUNTED + "bytes(0, 30, 0, 20) wrong(0) ! -12");
    runs.run("31 a ROW of shorts", COUNTED + "shorts(0, 30, 0, 20) wrong(0) ! -12");
    runs.run("31 no ROW of ints ahead of not one for each WAY", COUNTED + "row(0, 1, 2) wrong(0) ! -12 row(0, 0, 0) wrong(0) ! -12");
  }

  private static void closes() {
    runs.run("32 together as much", COUNTED + "ints(0, 31, 7, 19) closes(0, 0) = 1");
    runs.run("32 one more", COUNTED + "ints(0, 31, 0, 20) closes(0, 0) = 0");
    runs.run("32 one less", COUNTED + "ints(0, 29, 0, 20) closes(0, 0) = 0");
    runs.run("32 WAYS that touch it by either CELL", COUNTED + "ints(0, 30, 0, 20) closes(0, 0) = 1 closes(0, 1) = 1 closes(0, 2) = 1 put(0, 1, 1) closes(0, 0) = 1 closes(0, 1) = 0 closes(0, 2) = 0");
    runs.run("32 no WAY touches it", COUNTED + "ints(0, 9, 9, 9) closes(0, 3) = 1");
    runs.run("32 whatever SIGNS let", COUNTED + "ints(0, 30, 0, 20) sign(0, 3) sign(2, 2) closes(0, 0) = 1");
    runs.run("32 no wrapping round", COUNTED + "ints(0, 30, -2147483648, -2147483628) closes(0, 2) = 0 ints(0, 2147483647, 2147483647, 52) closes(0, 0) = 0");
    runs.run("32 no WAYS, an empty ROW", "cell(0, 0, 0) row(0, 2, 0) closes(0, 0) = 1");
    runs.run("32 CELL -1", COUNTED + "ints(0, 30, 0, 20) closes(0, -1) ! -1");
    runs.run("32 CELL behind the last", COUNTED + "ints(0, 30, 0, 20) closes(0, 3) = 1 closes(0, 4) ! -1");
    runs.runEach("32 CELL far off", FAR_OFF, COUNTED + "ints(0, 30, 0, 20) closes(0, #) ! -1");
    runs.run("32 SHELF -1", COUNTED + "closes(-1, 0) ! -1");
    runs.run("32 SHELF 7 is the last", COUNTED + "ints(7, 30, 0, 20) closes(7, 0) = 1 closes(8, 0) ! -1");
    runs.runEach("32 SHELF far off", FAR_OFF, COUNTED + "closes(#, 0) ! -1");
    runs.run("32 nothing is held", COUNTED + "closes(0, 0) ! -11");
    runs.run("32 a BODY", COUNTED + "keep(0, 1, 0) closes(0, 0) ! -12");
    runs.run("32 a ROW of bytes", COUNTED + "bytes(0, 30, 0, 20) closes(0, 0) ! -12");
    runs.run("32 a ROW of shorts", COUNTED + "shorts(0, 30, 0, 20) closes(0, 0) ! -12");
    runs.run("32 one too few", COUNTED + "ints(0, 30, 0) closes(0, 0) ! -13");
    runs.run("32 one too many", COUNTED + "ints(0, 30, 0, 20, 0) closes(0, 0) ! -13");
    runs.run("32 no ROW of ints ahead of not one for each WAY", COUNTED + "row(0, 1, 2) closes(0, 0) ! -12");
    runs.run("32 no CELL ahead of what the SHELF holds", COUNTED + "closes(0, 4) ! -1 keep(0, 1, 0) closes(0, 4) ! -1 row(0, 2, 1) closes(0, 4) ! -1");
  }
}
