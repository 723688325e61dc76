/** Edges of promises 9 to 15, a run for a sentence. */
public final class BodiesEdgesTest {
  private static final Runs runs = new Runs("BodiesEdgesTest");
  private static final String TWO = "cell(0, 0, 0) cell(0, 0, 0)";
  private static final String ONE_WAY = TWO + " way(0, 1, 105)";
  private static final String FULL = ONE_WAY + " group(0, 1, 0) comes(2, 0) * 39";
  /** GROUP 0, STRAY 1, BUS 2, TRAIN 3, POST 4, LITTER 5. */
  private static final String ALL_KINDS =
      ONE_WAY + " group(0, 9, 0) stray(0, 1, 20, -1) comes(2, 0) comes(3, 1) post(0) comes(5, 1)";
  private static final int[] FAR_OFF = {Integer.MIN_VALUE, Integer.MAX_VALUE};
  private static final int[] NO_GROUPS = {1, 2, 3, 4, 5};

  public static void main(String[] args) {
    groups();
    groupsTold();
    strays();
    straysOf();
    comers();
    posts();
    aims();
    aimsOf();
    unaims();
    bodies();
    bodiesOfKinds();
    bodiesOnWays();
    counted();
    runs.end();
  }

  private static void groups() {
    runs.run("9 GROUPS are numbered as BODIES come", TWO, "comes(2, 0) = 0 group(0, 1, 0) = 1 group(0, 0, 0) ! -1 group(1, 1, 0) = 2");
    runs.run("9 CELL -1", TWO, "group(-1, 1, 0) ! -1");
    runs.run("9 CELL behind the last", TWO, "group(1, 1, 0) = 0 group(2, 1, 0) ! -1");
    runs.runEach("9 CELL far off", FAR_OFF, TWO, "group(#, 1, 0) ! -1");
    runs.run("9 1 HEAD is the least", TWO, "group(0, 1, 0) = 0 body(0, 4) = 1");
    runs.run("9 400 HEADS are the most", TWO, "group(0, 400, 0) = 0 body(0, 4) = 400");
    runs.run("9 0 HEADS", TWO, "group(0, 0, 0) ! -1");
    runs.run("9 -1 HEADS", TWO, "group(0, -1, 0) ! -1");
    runs.run("9 401 HEADS", TWO, "group(0, 401, 0) ! -1");
    runs.runEach("9 HEADS far off", FAR_OFF, TWO, "group(0, #, 0) ! -1");
    runs.run("9 BODY 39 is the last", ONE_WAY, "comes(2, 0) * 39 group(1, 5, 53) = 39 body(39, 4) = 5 aim(39, 0, 0) = 1 go(1) body(39, 2) = 0");
    runs.run("9 no room for a 41st BODY", FULL, "group(0, 1, 0) ! -2 count(2) = 40 body(40, 0) ! -1");
    runs.run("9 out of range ahead of no room", FULL, "group(2, 1, 0) ! -1 group(0, 0, 0) ! -1 group(0, 401, 0) ! -1 group(0, 1, 4) ! -1 group(0, 1, 60) ! -1");
    runs.run("9 HEADS grow above 400 by those that are FOUND", TWO, "group(0, 400, 0) stray(0, 0, 1, -1) found(1, 0) = 401 body(0, 4) = 401");
  }

  private static void groupsTold() {
    runs.run("9 TONGUE 0 and SCHOOL 0 are the least", TWO, "group(0, 1, 0) = 0 body(0, 6) = 0 body(0, 7) = 0");
    runs.run("9 SCHOOL 3 is the greatest", TWO, "group(0, 1, 3) = 0 body(0, 6) = 0 body(0, 7) = 3");
    runs.run("9 TONGUE 5 is the greatest", TWO, "group(0, 1, 50) = 0 body(0, 6) = 5 body(0, 7) = 0");
    runs.run("9 both greatest", TWO, "group(0, 1, 53) = 0 body(0, 6) = 5 body(0, 7) = 3");
    runs.run("9 SCHOOL 4", TWO, "group(0, 1, 4) ! -1 group(0, 1, 54) ! -1 group(0, 1, 9) ! -1");
    runs.run("9 TONGUE 6", TWO, "group(0, 1, 60) ! -1 group(0, 1, 63) ! -1");
    runs.run("9 told below 0", TWO, "group(0, 1, -1) ! -1 group(0, 1, -10) ! -1 group(0, 1, -9) ! -1");
    runs.runEach("9 told far off", FAR_OFF, TWO, "group(0, 1, #) ! -1");
  }

  private static void strays() {
    runs.run("10 STRAYS are numbered as BODIES come", TWO, "comes(2, 0) = 0 stray(1, 0, 0, -1) = 1 body(1, 0) = 1 body(1, 1) = 1");
    runs.run("10 CELL -1", TWO, "stray(-1, 0, 0, -1) ! -1");
    runs.run("10 CELL behind the last", TWO, "stray(2, 0, 0, -1) ! -1");
    runs.runEach("10 CELL far off", FAR_OFF, TWO, "stray(#, 0, 0, -1) ! -1");
    runs.run("10 TONGUE 0 is the least", TWO, "stray(0, 0, 0, -1) = 0 body(0, 6) = 0");
    runs.run("10 TONGUE 5 is the greatest", TWO, "stray(0, 5, 0, -1) = 0 body(0, 6) = 5");
    runs.run("10 TONGUE -1", TWO, "stray(0, -1, 0, -1) ! -1");
    runs.run("10 TONGUE 6", TWO, "stray(0, 6, 0, -1) ! -1");
    runs.runEach("10 TONGUE far off", FAR_OFF, TWO, "stray(0, #, 0, -1) ! -1");
    runs.run("10 AGE 0 is the least", TWO, "stray(0, 0, 0, -1) = 0 body(0, 7) = 0");
    runs.run("10 AGE 110 is the greatest", TWO, "stray(0, 0, 110, -1) = 0 body(0, 7) = 110");
    runs.run("10 AGE -1", TWO, "stray(0, 0, -1, -1) ! -1");
    runs.run("10 AGE 111", TWO, "stray(0, 0, 111, -1) ! -1");
    runs.runEach("10 AGE far off", FAR_OFF, TWO, "stray(0, 0, #, -1) ! -1");
    runs.run("10 BODY 39 is the last", TWO, "comes(2, 0) * 39 stray(0, 0, 5, -1) = 39 whose(39) = 0");
    runs.run("10 no room for a 41st BODY", FULL, "stray(0, 0, 0, -1) ! -2 stray(0, 0, 0, 0) ! -2");
    runs.run("10 out of range ahead of no room", FULL, "stray(2, 0, 0, -1) ! -1 stray(0, 6, 0, -1) ! -1 stray(0, 0, 111, -1) ! -1",
        "stray(0, 0, 0, -2) ! -1 stray(0, 0, 0, 40) ! -1");
    runs.run("10 no GROUP ahead of no room", FULL, "stray(0, 0, 0, 1) ! -1 stray(0, 0, 0, 39) ! -1");
  }

  private static void straysOf() {
    runs.run("10 GROUP -1 is not known", TWO, "group(0, 5, 0) group(0, 5, 0) stray(0, 0, 0, -1) = 2 found(2, 1) = 6");
    runs.run("10 GROUP 0 is known", TWO, "group(0, 5, 0) group(0, 5, 0) stray(0, 0, 0, 0) = 2 found(2, 1) ! -3 found(2, 0) = 6");
    runs.run("10 GROUP -2", TWO, "group(0, 5, 0) stray(0, 0, 0, -2) ! -1");
    runs.run("10 GROUP behind the last BODY", TWO, "group(0, 5, 0) stray(0, 0, 0, 1) ! -1 stray(0, 0, 0, 2) ! -1");
    runs.runEach("10 GROUP far off", FAR_OFF, TWO, "group(0, 5, 0) stray(0, 0, 0, #) ! -1");
    runs.runEach("10 no GROUP, but another BODY", NO_GROUPS, ALL_KINDS, "stray(0, 0, 0, #) ! -1");
    runs.run("10 its GROUP may be of another TONGUE and CELL", TWO, "group(1, 5, 10) stray(0, 0, 0, 0) = 1 body(1, 6) = 0");
    runs.run("10 a STRAY has 1 HEAD that is not counted for GROUPS", TWO, "group(0, 5, 0) stray(0, 0, 0, 0) body(1, 4) = 1 count(6) = 5");
  }

  private static void comers() {
    runs.run("11 kind 2 is a BUS", TWO, "comes(2, 1) = 0 body(0, 0) = 2 body(0, 1) = 1 body(0, 5) = 50");
    runs.run("11 kind 3 is a TRAIN", TWO, "comes(3, 1) = 0 body(0, 0) = 3 body(0, 1) = 1 body(0, 5) = 300");
    runs.run("11 kind 5 is a LITTER", TWO, "comes(5, 1) = 0 body(0, 0) = 5 body(0, 1) = 1 body(0, 5) = 1");
    runs.runEach("11 kinds that do not come so", new int[] {-1, 0, 1, 4, 6, 7, Integer.MIN_VALUE, Integer.MAX_VALUE}, ALL_KINDS, "comes(#, 0) ! -1");
    runs.run("11 CELL -1", TWO, "comes(2, -1) ! -1");
    runs.run("11 CELL behind the last", TWO, "comes(2, 2) ! -1 comes(3, 2) ! -1 comes(5, 2) ! -1");
    runs.runEach("11 CELL far off", FAR_OFF, TWO, "comes(2, #) ! -1");
    runs.run("11 BODY 39 is the last", TWO, "comes(2, 0) * 39 comes(3, 0) = 39");
    runs.run("11 no room for a 41st BODY", FULL, "comes(2, 0) ! -2 comes(3, 0) ! -2 comes(5, 0) ! -2");
    runs.run("11 out of range ahead of no room", FULL, "comes(4, 0) ! -1 comes(1, 0) ! -1 comes(2, 2) ! -1");
  }

  private static void posts() {
    runs.run("12 a POST is numbered as BODIES come", ONE_WAY, "comes(2, 0) = 0 post(0) = 1 body(1, 0) = 4");
    runs.run("12 WAY -1", ONE_WAY, "post(-1) ! -1");
    runs.run("12 WAY behind the last", ONE_WAY, "post(1) ! -1");
    runs.runEach("12 WAY far off", FAR_OFF, ONE_WAY, "post(#) ! -1");
    runs.run("12 the 8th POST is the last", ONE_WAY, "post(0) * 7 post(0) = 7 count(12) = 8");
    runs.run("12 no room for a 9th POST", ONE_WAY, "post(0) * 8 post(0) ! -2 count(12) = 8 comes(2, 0) = 8");
    runs.run("12 no WAY ahead of 8 POSTS", ONE_WAY, "post(0) * 8 post(1) ! -1 post(-1) ! -1");
    runs.run("12 BODY 39 is the last", ONE_WAY, "comes(2, 0) * 39 post(0) = 39 body(39, 2) = 0");
    runs.run("12 no room for a 41st BODY", FULL, "post(0) ! -2 count(12) = 0");
    runs.run("12 no WAY ahead of no room", FULL, "post(1) ! -1 post(-1) ! -1");
    runs.run("12 more than one POST at a WAY", ONE_WAY, "post(0) = 0 post(0) = 1 body(0, 2) = 0 body(1, 2) = 0");
    runs.run("12 POSTS that THE IMAGE has not leave room again", ONE_WAY, "image() post(0) * 8 restore() post(0) = 0 count(12) = 1");
  }

  private static void aims() {
    String group = ONE_WAY + " group(0, 5, 0)";
    runs.run("13 how many it has", group, "aim(0, 0, 1) = 1 aim(0, 0, 1) = 2 aim(0, 9, 0) = 3");
    runs.run("13 MINUTE 0 is the first", group, "aim(0, 0, 1) = 1 go(1) body(0, 2) = 0");
    runs.run("13 MINUTE 4320 is the last", group, "aim(0, 4320, 1) = 1");
    runs.run("13 MINUTE -1", group, "aim(0, -1, 1) ! -1");
    runs.run("13 MINUTE 4321", group, "aim(0, 4321, 1) ! -1");
    runs.runEach("13 MINUTE far off", FAR_OFF, group, "aim(0, #, 1) ! -1");
    runs.run("13 a MINUTE that is the last AIM's", group, "aim(0, 7, 1) = 1 aim(0, 7, 0) = 2");
    runs.run("13 a MINUTE below the last AIM's", group, "aim(0, 7, 1) = 1 aim(0, 6, 0) ! -1 aim(0, 0, 0) ! -1");
    runs.run("13 below the last AIM's, not the first's", group, "aim(0, 7, 1) aim(0, 9, 1) aim(0, 8, 0) ! -1 aim(0, 9, 0) = 3");
    runs.run("13 a MINUTE that went by", group, "go(9) aim(0, 3, 1) = 1 go(1) body(0, 2) = 0");
    runs.run("13 CELL -1", group, "aim(0, 0, -1) ! -1");
    runs.run("13 CELL behind the last", group, "aim(0, 0, 2) ! -1");
    runs.runEach("13 CELL far off", FAR_OFF, group, "aim(0, 0, #) ! -1");
    runs.run("13 the 8th AIM is the last", group, "aim(0, 0, 1) * 7 aim(0, 4320, 0) = 8");
    runs.run("13 no room for a 9th AIM", group, "aim(0, 4, 1) * 8 aim(0, 4, 0) ! -2 aim(0, 4320, 0) ! -2 unaim(0) = 8");
    runs.run("13 below the last AIM's ahead of no room", group, "aim(0, 4, 1) * 8 aim(0, 3, 0) ! -1");
    runs.run("13 out of range ahead of no room", group, "aim(0, 4, 1) * 8 aim(0, 4321, 0) ! -1 aim(0, 4, 2) ! -1 aim(1, 4, 0) ! -1");
    runs.run("13 another GROUP's AIMS do not count", group, "group(0, 1, 0) aim(0, 9, 1) * 8 aim(1, 3, 1) = 1 aim(0, 9, 1) ! -2");
  }

  private static void aimsOf() {
    runs.run("13 GROUP -1", ALL_KINDS, "aim(-1, 0, 0) ! -1");
    runs.run("13 GROUP behind the last BODY", ALL_KINDS, "aim(6, 0, 0) ! -1");
    runs.runEach("13 GROUP far off", FAR_OFF, ALL_KINDS, "aim(#, 0, 0) ! -1");
    runs.runEach("13 no GROUP, but another BODY", NO_GROUPS, ALL_KINDS, "aim(#, 0, 0) ! -1");
    runs.run("13 a GROUP on a WAY gets one, too", ALL_KINDS, "aim(0, 0, 1) go(1) body(0, 2) = 0 aim(0, 1, 0) = 2 go(6) body(0, 2) = 0");
  }

  private static void unaims() {
    runs.run("14 none", ALL_KINDS, "unaim(0) = 0");
    runs.run("14 how many it had", ALL_KINDS, "aim(0, 4, 1) * 8 unaim(0) = 8 unaim(0) = 0");
    runs.run("14 any MINUTE can be aimed at behind it", ALL_KINDS, "aim(0, 9, 1) = 1 aim(0, 8, 1) ! -1 unaim(0) = 1 aim(0, 8, 1) = 1");
    runs.run("14 without AIMS it stays", ALL_KINDS, "aim(0, 2, 1) go(2) unaim(0) = 1 go(9) body(0, 1) = 0");
    runs.run("14 one that is on a WAY comes out of it", ALL_KINDS, "aim(0, 0, 1) go(2) unaim(0) = 1 go(9) body(0, 1) = 1");
    runs.run("14 GROUP -1", ALL_KINDS, "unaim(-1) ! -1");
    runs.run("14 GROUP behind the last BODY", ALL_KINDS, "unaim(6) ! -1");
    runs.runEach("14 GROUP far off", FAR_OFF, ALL_KINDS, "unaim(#) ! -1");
    runs.runEach("14 no GROUP, but another BODY", NO_GROUPS, ALL_KINDS, "unaim(#) ! -1");
    runs.run("14 another GROUP's AIMS stay", ALL_KINDS, "group(0, 1, 0) aim(0, 4, 1) aim(6, 4, 1) unaim(0) = 1 unaim(6) = 1");
  }

  private static void bodies() {
    runs.run("15 BODY -1", ALL_KINDS, "body(-1, 0) ! -1");
    runs.run("15 BODY behind the last", ALL_KINDS, "body(5, 0) = 5 body(6, 0) ! -1");
    runs.runEach("15 BODY far off", FAR_OFF, ALL_KINDS, "body(#, 0) ! -1");
    runs.run("15 what -1", ALL_KINDS, "body(0, -1) ! -1 body(4, -1) ! -1");
    runs.run("15 what 14", ALL_KINDS, "body(0, 13) = 0 body(0, 14) ! -1 body(4, 14) ! -1");
    runs.runEach("15 what far off", FAR_OFF, ALL_KINDS, "body(0, #) ! -1");
  }

  private static void bodiesOfKinds() {
    String rest = " = 0 body(#, 9) = 0 body(#, 10) = 0 body(#, 11) = 0 body(#, 12) = 0 body(#, 13) = 0 body(#, 3) = 0";
    String all = "body(#, 8)" + rest;
    runs.run("15 of a GROUP", ALL_KINDS, "body(0, 0) = 0 body(0, 1) = 0 body(0, 2) = -4 body(0, 4) = 9 body(0, 5) = 0 body(0, 6) = 0 body(0, 7) = 0", all.replace('#', '0'));
    runs.run("15 of a STRAY", ALL_KINDS, "body(1, 0) = 1 body(1, 1) = 0 body(1, 2) = -4 body(1, 4) = 1 body(1, 5) = 0 body(1, 6) = 1 body(1, 7) = 20", all.replace('#', '1'));
    runs.run("15 of a BUS", ALL_KINDS, "body(2, 0) = 2 body(2, 1) = 0 body(2, 2) = -4 body(2, 4) = 0 body(2, 5) = 50 body(2, 6) = -4 body(2, 7) = -4", all.replace('#', '2'));
    runs.run("15 of a TRAIN", ALL_KINDS, "body(3, 0) = 3 body(3, 1) = 1 body(3, 2) = -4 body(3, 4) = 0 body(3, 5) = 300 body(3, 6) = -4 body(3, 7) = -4", all.replace('#', '3'));
    runs.run("15 of a POST: no CELL, its WAY", ALL_KINDS, "body(4, 0) = 4 body(4, 1) = -4 body(4, 2) = 0 body(4, 4) = 0 body(4, 5) = 0 body(4, 6) = -4 body(4, 7) = -4", all.replace('#', '4'));
    runs.run("15 of a LITTER", ALL_KINDS, "body(5, 0) = 5 body(5, 1) = 1 body(5, 2) = -4 body(5, 4) = 0 body(5, 5) = 1 body(5, 6) = -4 body(5, 7) = -4", all.replace('#', '5'));
    runs.run("15 of a STRAY that was FOUND: no CELL, no HEADS", TWO, "group(0, 5, 20) stray(0, 2, 33, 0) found(1, 0) = 6 body(1, 0) = 1 body(1, 1) = -4 body(1, 2) = -4",
        "body(1, 3) = 0 body(1, 4) = 0 body(1, 5) = 0 body(1, 6) = 2 body(1, 7) = 33");
    runs.run("15 only GROUPS have SUN", ALL_KINDS, "go(31) body(0, 8) = 930 body(1, 8) = 0 body(2, 8) = 0 body(5, 8) = 0");
  }

  private static void bodiesOnWays() {
    String walking = TWO + " way(0, 1, 130) group(0, 10, 0) aim(0, 0, 1)";
    runs.run("15 on a WAY no CELL", walking, "body(0, 1) = 0 go(1) body(0, 1) = -4");
    runs.run("15 on a WAY its WAY", walking, "body(0, 2) = -4 go(1) body(0, 2) = 0");
    runs.run("15 on a WAY the MINUTES to go", walking, "body(0, 3) = 0 go(1) body(0, 3) = 30 go(1) body(0, 3) = 29 go(28) body(0, 3) = 1");
    runs.run("15 out of it none of these", walking, "go(31) body(0, 1) = 1 body(0, 2) = -4 body(0, 3) = 0");
    runs.run("15 FELL", TWO, "way(0, 1, 130) group(0, 100, 0) aim(0, 0, 1) go(2) body(0, 11) = 8 body(0, 12) = 0 body(0, 4) = 92");
    runs.run("15 FAINTED", TWO, "group(0, 100, 0) go(51) body(0, 12) = 3 body(0, 11) = 0 body(0, 4) = 97");
    runs.run("15 CARRIED", TWO, "group(0, 100, 0) comes(5, 0) go(51) carry(1, 0) = 1 body(0, 13) = 1 carry(1, 0) = 2 body(0, 13) = 2 body(1, 13) = 0");
  }

  private static void counted() {
    runs.run("BODIES and GROUPS are counted", ALL_KINDS, "count(2) = 6 count(3) = 1 count(12) = 1 group(1, 400, 0) = 6 count(2) = 7 count(3) = 2 count(6) = 409");
    runs.run("all 40 may be GROUPS", TWO, "group(0, 400, 0) * 39 group(0, 400, 0) = 39 count(3) = 40 count(6) = 16000 go(1) = 0");
  }
}
