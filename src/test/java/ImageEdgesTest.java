/** Edges of THE IMAGE and of promises 40 to 42, a run for a sentence. */
public final class ImageEdgesTest {
  private static final Runs runs = new Runs("ImageEdgesTest");
  private static final String TWO = "cell(0, 0, 0) cell(0, 0, 0) ";
  private static final String ONE_WAY = TWO + "way(0, 1, 105) ";
  private static final int[] FAR_OFF = {Integer.MIN_VALUE, Integer.MAX_VALUE};

  public static void main(String[] args) {
    taken();
    plainAsThen();
    bodiesAsThen();
    textsAsThen();
    minutesAsThen();
    shelvesStay();
    roomAsThen();
    restoredTwice();
    numbersUsedAgain();
    counts();
    countsOfBodies();
    runs.end();
  }

  private static void taken() {
    runs.run("40 NOW", "image() = 0 go(7) image() = 7 pass(4313) image() = 4320");
    runs.run("40 of nothing", "image() = 0 cell(0, 0, 0) restore() = 0 count(0) = 0 cell(0, 0, 0) = 0");
    runs.run("41 there is none", ONE_WAY + "restore() ! -3 go(3) restore() ! -3");
    runs.run("41 NOW is as it was then", "go(7) image() = 7 go(50) restore() = 7 count(4) = 7");
    runs.run("41 RESTORED more than once", ONE_WAY + "image() go(9) restore() = 0 sign(0, 3) restore() = 0 about(0, 4) = 0 restore() = 0");
    runs.run("41 RESTORED at once", ONE_WAY + "go(3) image() restore() = 3 count(1) = 1");
    runs.run("40 a new one in place of the one ahead", ONE_WAY + "image() = 0 sign(0, 1) go(5) image() = 5 sign(0, 2) restore() = 5 about(0, 4) = 1");
    runs.run("40 a new one behind RESTORE", ONE_WAY + "image() go(5) restore() = 0 go(3) image() = 3 go(2) restore() = 3");
    runs.run("41 back from the end of all MINUTES", "pass(4300) image() go(20) go(1) ! -2 restore() = 4300 go(20) = 0 count(4) = 4320");
    runs.run("40 what is done behind it does not come into it", ONE_WAY + "group(0, 9, 0) image() aim(0, 0, 1) go(3) body(0, 2) = 0 restore() = 0 body(0, 1) = 0 unaim(0) = 0");
  }

  private static void plainAsThen() {
    runs.run("41 CELLS", TWO + "image() cell(0, 0, 9) = 2 restore() count(0) = 2 water(2, 1) ! -1 cell(3, 0, 0) = 2 wave(2, 1) = 0");
    runs.run("41 WATER", "cell(0, 0, 50) image() water(0, 9) = 59 restore() count(11) = 50 water(0, 1) = 51");
    runs.run("41 WATER that was drunk", "cell(0, 0, 50) group(0, 9, 0) image() go(1) count(11) = 41 restore() count(11) = 50");
    runs.run("41 WAYS", TWO + "image() way(0, 1, 105) = 0 far(0, 1) = 5 restore() count(1) = 0 far(0, 1) = -4 about(0, 0) ! -1 way(1, 0, 4203) = 0 about(0, 0) = 1 about(0, 2) = 42 about(0, 3) = 3 about(0, 4) = 0");
    runs.run("41 SIGNS", ONE_WAY + "sign(0, 2) image() sign(0, 3) far(1, 0) = -4 restore() about(0, 4) = 2 far(1, 0) = 5 far(0, 1) = -4");
    runs.run("41 HEAT", "heat(0, 11) heat(23, 12) image() heat(0, 13) heat(23, 14) restore() heat(0, 1) = 11 heat(23, 1) = 12 heat(5, 1) = 30");
    String pressed = TWO + "way(0, 1, 130) group(0, 100, 0) aim(0, 0, 1) go(3) ";
    runs.run("41 PRESS", pressed + "image() go(5) restore() about(0, 5) = 92");
    runs.run("41 PUSH", pressed + "image() go(5) restore() about(0, 6) = 52 go(1) about(0, 6) = 49");
    runs.run("41 HEADS on WAYS", pressed + "image() go(5) restore() about(0, 7) = 83");
    runs.run("41 what was SHUT", ONE_WAY + "sign(0, 3) go(1) sign(0, 0) image() go(1) about(0, 8) = 0 restore() about(0, 8) = 1");
    runs.run("41 what was not SHUT", ONE_WAY + "go(1) image() sign(0, 3) go(1) about(0, 8) = 1 restore() about(0, 8) = 0");
  }

  private static void bodiesAsThen() {
    runs.run("41 BODIES", ONE_WAY + "group(0, 9, 0) image() comes(2, 0) group(0, 5, 0) post(0) stray(0, 0, 1, -1) restore() count(2) = 1 count(3) = 1 count(10) = 0 count(12) = 0 body(1, 0) ! -1 comes(5, 1) = 1 body(1, 0) = 5");
    runs.run("41 where a GROUP is", ONE_WAY + "group(0, 9, 0) aim(0, 0, 1) go(2) image() go(9) body(0, 1) = 1 restore() body(0, 2) = 0 body(0, 3) = 4 go(3) body(0, 3) = 1 go(1) body(0, 1) = 1");
    runs.run("41 HEADS, SUN, FAINTED", TWO + "group(0, 100, 0) go(52) image() go(60) restore() body(0, 4) = 97 body(0, 8) = 1030 body(0, 12) = 3 count(8) = 3");
    runs.run("41 FELL", TWO + "way(0, 1, 130) group(0, 100, 0) aim(0, 0, 1) go(2) image() go(9) restore() body(0, 11) = 8 count(7) = 8");
    runs.run("41 STOOD", "cell(1, 0, 99999) group(0, 9, 0) pass(721) image() go(60) restore() body(0, 9) = 1");
    runs.run("41 THROWN", "cell(2, 0, 99999) group(0, 9, 0) go(61) image() pass(240) body(0, 10) = 6 restore() body(0, 10) = 2");
    runs.run("41 THROWN on a later day", "cell(2, 0, 99999) group(0, 9, 0) pass(1441) body(0, 10) = 8 image() go(60) body(0, 10) = 9 restore() body(0, 10) = 8 pass(600) body(0, 10) = 14");
    runs.run("41 from when on a GROUP was there", ONE_WAY + "go(5) group(0, 9, 0) image() go(3) restore() go(1) was(0, 4) ! -3 was(0, 5) = 0");
    runs.run("41 every BODY", TWO + "group(0, 100, 0) * 40 image() go(60) count(8) = 120 body(39, 12) = 3 restore() count(8) = 0 body(39, 4) = 100 body(39, 8) = 0 body(39, 12) = 0 body(16, 4) = 100 body(2, 8) = 0");
    runs.run("41 how often it has THROWN on this day", "cell(2, 0, 99999) group(0, 9, 0) image() pass(361) body(0, 10) = 7 restore() pass(400) body(0, 10) = 7");
    runs.run("41 how often it had THROWN on that day", "cell(2, 0, 99999) group(0, 9, 0) pass(361) body(0, 10) = 7 image() pass(1440) restore() pass(900) body(0, 10) = 7");
    runs.run("41 CARRIED", TWO + "group(0, 100, 0) comes(5, 0) go(51) carry(1, 0) = 1 image() carry(1, 0) = 2 restore() body(0, 13) = 1 count(9) = 1 carry(1, 0) = 2");
    runs.run("41 AIMS", ONE_WAY + "group(0, 9, 0) aim(0, 5, 1) image() unaim(0) = 1 aim(0, 0, 0) * 3 restore() aim(0, 4, 0) ! -1 unaim(0) = 1");
    runs.run("41 AIMS and where they lead", ONE_WAY + "group(0, 9, 0) aim(0, 5, 1) image() unaim(0) aim(0, 5, 0) restore() go(6) body(0, 2) = 0");
    runs.run("41 a STRAY that was FOUND since", TWO + "group(0, 9, 0) stray(0, 0, 5, -1) image() found(1, 0) = 10 restore() body(1, 1) = 0 body(1, 4) = 1 body(0, 4) = 9 count(10) = 1 whose(1) = 1 found(1, 0) = 10");
    runs.run("41 a STRAY that was FOUND ahead", TWO + "group(0, 9, 0) stray(0, 0, 5, -1) found(1, 0) image() go(1) restore() body(1, 1) = -4 whose(1) ! -3");
    runs.run("41 the GROUP that a STRAY is known to be of", TWO + "group(0, 9, 0) group(0, 9, 0) stray(0, 0, 5, 1) image() restore() found(2, 0) ! -3 found(2, 1) = 10");
    runs.run("41 a STRAY of no GROUP by a number that was another's", TWO + "group(0, 9, 0) group(0, 9, 0) image() stray(0, 0, 5, 1) restore() stray(0, 0, 5, -1) = 2 found(2, 0) = 10");
  }

  private static void textsAsThen() {
    runs.run("41 TEXTS told since are no more", ONE_WAY + "tell(\"h=0\") = 0 image() tell(\"h=1\") = 1 restore() count(5) = 1 holds(1, -1, -1) ! -1 force(0, 1) ! -1 tell(\"h=2\") = 1 holds(1, -1, -1) = 0 holds(0, -1, -1) = 1");
    runs.run("41 another TEXT of the same number", "image() tell(\"h=1\") = 0 restore() tell(\"0=0\") = 0 holds(0, -1, -1) = 1");
    runs.run("41 what is IN FORCE", ONE_WAY + "tell(\"h=0\") = 0 force(3, 0) image() force(3, -1) force(8, 0) restore() force(3, -1) = 0 force(8, -1) = -4");
    runs.run("41 POSTS and what they shut", ONE_WAY + "way(0, 1, 105) tell(\"0=0\") = 0 force(8, 0) image() post(0) go(1) about(0, 8) = 1 restore() post(1) go(1) about(0, 8) = 0 about(1, 8) = 1");
    runs.run("41 room for TEXTS", "image() write(7, \"h=0\") text(7) * 20 text(7) ! -2 restore() = 0 text(7) = 0 count(5) = 1");
  }

  private static void minutesAsThen() {
    runs.run("41 THE RECORD of MINUTES behind it", TWO + "group(0, 9, 0) go(5) image() go(5) record(7, 2) = 9 restore() record(4, 2) = 9 record(5, 2) ! -3 record(7, 2) ! -3");
    runs.run("41 THE RECORD as it went by this time", TWO + "group(0, 9, 0) image() go(2) record(1, 2) = 9 restore() group(0, 5, 0) go(2) record(0, 2) = 14 record(1, 2) = 14");
    runs.run("41 PUSHED behind it", TWO + "way(0, 1, 130) group(0, 100, 0) aim(0, 3, 1) image() go(9) pushed(0, 1) = 4 restore() pushed(0, 0) = -4 unaim(0) go(9) pushed(0, 1) = -4");
    runs.run("41 where it was behind it", ONE_WAY + "group(0, 9, 0) aim(0, 1, 1) go(1) image() go(9) was(0, 1) = 100 restore() was(0, 0) = 0 was(0, 1) ! -3 unaim(0) go(2) was(0, 1) = 0");
    runs.run("41 a GROUP that came since, and one in its place", ONE_WAY + "go(2) image() group(0, 9, 0) go(3) restore() go(1) group(1, 9, 0) = 0 go(2) was(0, 2) ! -3 was(0, 3) = 1 was(0, 4) = 1");
    runs.run("41 MINUTES go by as they did", TWO + "way(0, 1, 130) group(0, 100, 0) group(0, 30, 0) aim(0, 0, 1) aim(1, 3, 1) image() go(9) body(0, 4) = 47 body(1, 2) = 0 restore() go(9) body(0, 4) = 47 body(1, 2) = 0");
  }

  private static void shelvesStay() {
    runs.run("40 SHELVES are not in it: a ROW", ONE_WAY + "ints(0, 5, 6) image() put(0, 0, 9) row(1, 0, 3) restore() element(0, 0) = 9 element(0, 1) = 6 element(1, 2) = 0");
    runs.run("40 SHELVES are not in it: nothing", ONE_WAY + "ints(0, 5, 6) image() keep(0, 0, 0) restore() weight(0) ! -11");
    runs.run("40 SHELVES are not in it: a BODY that is no more", ONE_WAY + "image() comes(3, 0) = 0 keep(0, 1, 0) restore() body(0, 0) ! -1 weight(0) = 820 toss(0) = 100");
    runs.run("40 SHELVES are not in it: a BODY as then", TWO + "group(0, 9, 0) image() stray(0, 0, 1, -1) found(1, 0) keep(0, 1, 0) weight(0) = 20 restore() weight(0) = 20 keep(0, 1, 0) weight(0) = 19");
  }

  private static void roomAsThen() {
    runs.run("41 room for CELLS", "image() cell(0, 0, 0) * 16 cell(0, 0, 0) ! -2 restore() = 0 cell(0, 0, 0) = 0");
    runs.run("41 room for WAYS", TWO + "image() way(0, 1, 101) * 24 way(0, 1, 101) ! -2 restore() = 0 way(0, 1, 101) = 0");
    runs.run("41 room for BODIES", TWO + "image() comes(2, 0) * 40 comes(2, 0) ! -2 restore() = 0 comes(2, 0) = 0");
    runs.run("41 room for POSTS", ONE_WAY + "image() post(0) * 8 post(0) ! -2 restore() = 0 post(0) = 0");
    runs.run("41 no room, as then", TWO + "comes(2, 0) * 40 image() restore() = 0 comes(2, 0) ! -2");
    runs.run("41 all of it", "cell(0, 0, 5) * 16 way(0, 1, 101) * 24 group(0, 1, 0) * 40 image() go(1) restore() = 0 count(0) = 16 count(1) = 24 count(2) = 40 count(11) = 80 body(39, 4) = 1 about(23, 3) = 1");
  }

  /** What is done behind RESTORE does not come into THE IMAGE either. */
  private static void restoredTwice() {
    runs.run("41 twice: CELLS and WATER", "cell(0, 0, 50) image() restore() water(0, 9) cell(0, 0, 0) restore() count(11) = 50 count(0) = 1");
    runs.run("41 twice: WAYS and SIGNS", ONE_WAY + "image() restore() sign(0, 1) way(0, 1, 101) restore() about(0, 4) = 0 count(1) = 1 far(1, 0) = 5");
    runs.run("41 twice: HEAT", "image() restore() heat(4, 9) restore() heat(4, 9) = 30");
    runs.run("41 twice: AIMS", ONE_WAY + "group(0, 9, 0) aim(0, 0, 1) image() restore() unaim(0) aim(0, 9, 0) aim(0, 9, 0) restore() unaim(0) = 1");
    runs.run("41 twice: GROUPS", ONE_WAY + "group(0, 100, 0) aim(0, 0, 1) image() restore() go(60) restore() body(0, 1) = 0 body(0, 4) = 100 body(0, 8) = 0 body(0, 12) = 0 count(4) = 0");
    runs.run("41 twice: STRAYS", TWO + "group(0, 9, 0) stray(0, 0, 5, -1) image() restore() found(1, 0) = 10 restore() found(1, 0) = 10 count(6) = 10");
    runs.run("41 twice: TEXTS", "tell(\"0=0\") = 0 image() restore() tell(\"0=1\") = 1 force(3, 1) restore() count(5) = 1 force(3, -1) = -4 tell(\"1=1\") = 1 holds(1, -1, -1) = 1");
    runs.run("41 twice: THE RECORD", TWO + "group(0, 9, 0) go(2) image() go(3) restore() stray(0, 0, 0, -1) found(1, 0) = 10 go(3) record(3, 2) = 10 restore() record(2, 2) ! -3 record(1, 2) = 9 go(2) record(3, 2) = 9");
    runs.run("41 twice: where GROUPS were", ONE_WAY + "group(0, 9, 0) go(2) image() aim(0, 2, 1) go(9) restore() go(1) was(0, 2) = 0 restore() was(0, 2) ! -3 was(0, 1) = 0 aim(0, 2, 1) go(1) was(0, 2) = 100");
  }

  /** What comes to a number that was another's ahead of RESTORE has nothing of that one. */
  private static void numbersUsedAgain() {
    String plain = "cell(2, 0, 99999) cell(1, 0, 99999) ";
    String pressed = plain + "image() way(0, 1, 130) group(0, 100, 53) aim(0, 0, 1) go(3) sign(0, 3) go(1) about(0, 6) = 49 about(0, 8) = 1 body(0, 11) = 25 restore() ";
    runs.run("41 a WAY by a number that was another's", pressed + "way(1, 0, 5020) about(0, 0) = 1 about(0, 1) = 0 about(0, 2) = 50 about(0, 3) = 20 about(0, 4) = 0 about(0, 5) = 0 about(0, 6) = 0 about(0, 7) = 0 about(0, 8) = 0");
    runs.run("41 a GROUP by a number that was another's", pressed + "group(1, 7, 0) body(0, 1) = 1 body(0, 2) = -4 body(0, 3) = 0 body(0, 4) = 7 body(0, 6) = 0 body(0, 7) = 0 body(0, 8) = 0 body(0, 11) = 0 unaim(0) = 0 count(7) = 0");
    runs.run("41 a BUS by a number that was a GROUP's", pressed + "comes(2, 1) body(0, 0) = 2 body(0, 1) = 1 body(0, 2) = -4 body(0, 3) = 0 body(0, 4) = 0 body(0, 6) = -4 body(0, 7) = -4 body(0, 8) = 0 body(0, 11) = 0 keep(0, 1, 0) weight(0) = 160");
    runs.run("41 a GROUP by the number of one that FAINTED, was CARRIED, has SUN", "cell(0, 0, 0) image() group(0, 100, 0) comes(5, 0) go(55) carry(1, 0) = 1 restore() group(0, 9, 0) body(0, 8) = 0 body(0, 12) = 0 body(0, 13) = 0 count(8) = 0 count(9) = 0");
    runs.run("41 a GROUP by the number of one that STOOD", plain + "image() group(1, 9, 0) pass(800) body(0, 9) = 80 restore() group(1, 9, 0) body(0, 9) = 0");
    runs.run("41 a GROUP by the number of one that has THROWN", plain + "image() group(0, 9, 0) pass(400) body(0, 10) = 7 restore() group(0, 9, 0) body(0, 10) = 0 pass(400) body(0, 10) = 7");
    runs.run("41 a GROUP by the number of one that has THROWN on this day", plain + "go(1) image() group(0, 9, 0) pass(500) body(0, 10) = 7 restore() group(0, 9, 0) pass(500) body(0, 10) = 7");
    runs.run("41 a GROUP by a STRAY's number", plain + "image() stray(0, 5, 110, -1) restore() group(1, 9, 20) = 0 body(0, 6) = 2 body(0, 7) = 0 body(0, 1) = 1 go(1) was(0, 0) = 1");
  }

  private static void counts() {
    runs.run("42 what -1", ONE_WAY + "count(-1) ! -1");
    runs.run("42 what 13", ONE_WAY + "count(12) = 0 count(13) ! -1");
    runs.runEach("42 what far off", FAR_OFF, ONE_WAY + "count(#) ! -1");
    runs.run("42 0 CELLS", "count(0) = 0 cell(0, 0, 0) count(0) = 1 cell(0, 0, 0) * 15 count(0) = 16");
    runs.run("42 1 WAYS", TWO + "count(1) = 0 way(0, 1, 101) count(1) = 1 way(0, 1, 101) * 23 count(1) = 24");
    runs.run("42 4 NOW", "count(4) = 0 go(1) count(4) = 1 pass(4319) count(4) = 4320");
    runs.run("42 5 TEXTS", "count(5) = 0 write(7, \"h=0\") text(7) count(5) = 1 text(7) * 19 count(5) = 20 force(0, 3) count(5) = 20");
    runs.run("42 10 with STRAYS at both ends of all BODIES", TWO + "stray(0, 0, 0, -1) comes(2, 0) * 38 stray(0, 0, 0, -1) = 39 count(10) = 2");
    runs.run("42 11 cups of WATER of all CELLS", "cell(0, 0, 99999) * 16 count(11) = 1599984 group(0, 9, 0) go(1) count(11) = 1599975");
  }

  private static void countsOfBodies() {
    String all = ONE_WAY + "group(0, 9, 10) stray(0, 1, 20, -1) comes(2, 0) comes(3, 0) post(0) comes(5, 0) stray(1, 1, 20, -1) group(1, 7, 0) ";
    runs.run("42 2 BODIES", all + "count(2) = 8 found(1, 0) = 10 count(2) = 8");
    runs.run("42 3 GROUPS", all + "count(3) = 2");
    runs.run("42 6 HEADS of GROUPS, none of STRAYS", all + "count(6) = 16 found(1, 0) = 10 count(6) = 17");
    runs.run("42 7 all that FELL", TWO + "way(0, 1, 130) way(0, 1, 130) post(0) group(0, 100, 0) aim(1, 0, 1) go(1) sign(0, 3) group(0, 100, 0) aim(2, 0, 1) go(2) body(1, 11) = 17 body(2, 11) = 8 count(7) = 25");
    runs.run("42 7 all that FELL, with other BODIES", TWO + "way(0, 1, 130) group(0, 100, 0) comes(2, 0) stray(0, 0, 1, -1) aim(0, 0, 1) go(2) count(7) = 8 record(1, 3) = 8");
    runs.run("42 6, 8, 9 with other BODIES", TWO + "group(0, 100, 0) comes(5, 0) comes(2, 0) stray(0, 0, 1, -1) go(51) carry(1, 0) = 1 count(6) = 97 count(8) = 3 count(9) = 1 record(50, 2) = 97 record(50, 4) = 3");
    runs.run("42 8 all that FAINTED", TWO + "group(0, 100, 0) group(1, 49, 0) go(51) count(8) = 4");
    runs.run("42 9 all that were CARRIED", TWO + "group(0, 100, 0) group(0, 49, 0) comes(5, 0) go(51) carry(2, 0) carry(2, 0) carry(2, 1) count(9) = 3");
    runs.run("42 10 STRAYS not FOUND", all + "count(10) = 2 found(1, 0) = 10 count(10) = 1");
    runs.run("42 12 POSTS", all + "count(12) = 1 post(0) * 7 count(12) = 8");
  }
}
