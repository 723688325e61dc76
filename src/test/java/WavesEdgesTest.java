/** Edges of WAVES, ROUNDS and CHANGES and of promises 33 to 39, a run for a sentence. */
public final class WavesEdgesTest {
  private static final Runs runs = new Runs("WavesEdgesTest");
  private static final String STATION = "cell(3, 0, 0) cell(0, 0, 0) ";
  private static final String TWO = "cell(0, 0, 0) cell(0, 0, 0) ";
  /** GROUP 0, STRAY 1, BUS 2, TRAIN 3, POST 4, LITTER 5, all in a STATION. */
  private static final String ALL_KINDS =
      STATION + "way(0, 1, 105) group(0, 9, 10) stray(0, 1, 20, -1) comes(2, 0) comes(3, 0) post(0) comes(5, 0) ";
  private static final int[] FAR_OFF = {Integer.MIN_VALUE, Integer.MAX_VALUE};
  private static final int[] NO_GROUPS = {1, 2, 3, 4, 5};

  public static void main(String[] args) {
    whoGoes();
    vehicles();
    seats();
    which();
    waveRefusals();
    rideRefusals();
    rounds();
    late();
    roundRefusals();
    slotRefusals();
    judged();
    judgeRefusals();
    worst();
    worstRefusals();
    best();
    bestRefusals();
    runs.end();
  }

  private static void whoGoes() {
    runs.run("33 nobody is there", STATION + "comes(2, 0) wave(0, 1) = 0 wave(0, 2) = 0");
    runs.run("33 6 GROUPS go", STATION + "group(0, 5, 0) * 6 comes(3, 0) wave(0, 1) = 30 rides(5, 1) = 60");
    runs.run("33 the 7th doesn't", STATION + "group(0, 5, 0) * 7 comes(3, 0) wave(0, 1) = 30 rides(6, 1) = -4 rides(0, 1) = 70");
    runs.run("33 the first 6 by numbers, even where the 7th would fill more", STATION + "group(0, 5, 0) * 6 group(0, 50, 0) comes(2, 0) wave(0, 1) = 30 rides(6, 1) = -4");
    runs.run("33 GROUPS without HEADS are not of the 6", STATION + "group(0, 1, 0) heat(0, 60) go(26) body(0, 4) = 0 group(0, 5, 0) * 6 comes(3, 0) wave(0, 1) = 30 rides(0, 1) = -4 rides(6, 1) = 70");
    runs.run("33 GROUPS elsewhere are not of the 6", STATION + "group(1, 5, 0) group(0, 5, 0) * 6 comes(3, 0) wave(0, 1) = 30 rides(6, 1) = 70");
    runs.run("33 GROUPS of another STATION", STATION + "cell(3, 0, 0) group(0, 5, 0) group(2, 7, 0) comes(2, 0) wave(0, 1) = 5 wave(2, 1) = 0 rides(1, 1) = -4");
    runs.run("33 GROUPS on a WAY are not there", STATION + "way(0, 1, 130) group(0, 5, 0) group(0, 7, 0) aim(0, 0, 1) go(1) comes(2, 0) wave(0, 1) = 7 rides(0, 1) ! -3");
    runs.run("33 a GROUP of 1 HEAD", STATION + "group(0, 1, 0) comes(2, 0) wave(0, 1) = 1 rides(0, 1) = 10");
    runs.run("33 HEADS as they are now", STATION + "group(0, 51, 0) comes(2, 0) wave(0, 1) = 0 heat(0, 60) go(26) body(0, 4) = 49 wave(0, 1) = 49");
    runs.run("33 STRAYS do not ride", STATION + "group(0, 49, 0) stray(0, 0, 9, 0) comes(2, 0) wave(0, 1) = 49 found(1, 0) = 50 wave(0, 1) = 50");
    runs.run("33 it is told, nobody goes", STATION + "group(0, 5, 0) comes(2, 0) wave(0, 1) = 5 body(0, 1) = 0 body(0, 4) = 5 wave(0, 1) = 5");
  }

  private static void vehicles() {
    runs.run("33 no TRAINS, no BUSES", STATION + "group(0, 5, 0) comes(5, 0) wave(0, 2) = 0 rides(0, 2) = -4");
    runs.run("33 BUSES elsewhere", STATION + "group(0, 5, 0) comes(2, 1) wave(0, 1) = 0");
    runs.run("33 3 vehicles go", STATION + "group(0, 50, 0) * 3 comes(2, 0) * 3 wave(0, 1) = 150 rides(2, 1) = 50");
    runs.run("33 the 4th doesn't", STATION + "group(0, 50, 0) * 4 comes(2, 0) * 4 wave(0, 1) = 150 rides(3, 1) = -4");
    runs.run("33 the first 3 by numbers, even where the 4th is a TRAIN", STATION + "group(0, 60, 0) comes(2, 0) * 3 comes(3, 0) wave(0, 1) = 0");
    runs.run("33 TRAINS and BUSES together by numbers", STATION + "group(0, 60, 0) comes(2, 0) comes(3, 0) comes(2, 0) comes(3, 0) wave(0, 1) = 60 rides(0, 1) = 20");
    runs.run("33 LITTERS and POSTS are not of the 3", STATION + "way(0, 1, 101) group(0, 60, 0) comes(5, 0) post(0) comes(5, 0) comes(3, 0) wave(0, 1) = 60 rides(0, 1) = 40");
    runs.run("33 1 ride", STATION + "group(0, 50, 0) * 3 comes(2, 0) wave(0, 1) = 50");
    runs.run("33 2 rides", STATION + "group(0, 50, 0) * 3 comes(2, 0) wave(0, 2) = 100");
    runs.run("33 3 vehicles, 2 rides", STATION + "group(0, 50, 0) * 6 comes(2, 0) * 3 wave(0, 2) = 300 rides(0, 2) = 60 rides(1, 2) = 61 rides(2, 2) = 70 rides(3, 2) = 71 rides(4, 2) = 80 rides(5, 2) = 81");
  }

  private static void seats() {
    runs.run("33 50 HEADS in a BUS", STATION + "group(0, 50, 0) comes(2, 0) wave(0, 1) = 50");
    runs.run("33 51 HEADS in no BUS", STATION + "group(0, 51, 0) comes(2, 0) wave(0, 1) = 0 wave(0, 2) = 0");
    runs.run("33 300 HEADS in a TRAIN", STATION + "group(0, 300, 0) comes(3, 0) wave(0, 1) = 300");
    runs.run("33 301 HEADS in no TRAIN", STATION + "group(0, 301, 0) comes(3, 0) wave(0, 2) = 0");
    runs.run("33 several in one ride, to the last SEAT", STATION + "group(0, 20, 0) group(0, 30, 0) comes(2, 0) wave(0, 1) = 50");
    runs.run("33 several in one ride, one too many", STATION + "group(0, 20, 0) group(0, 31, 0) comes(2, 0) wave(0, 1) = 31");
    runs.run("33 GROUPS whole", STATION + "group(0, 60, 0) comes(2, 0) comes(2, 0) wave(0, 2) = 0");
  }

  private static void which() {
    runs.run("33 most HEADS, not the first", STATION + "group(0, 40, 0) group(0, 30, 0) group(0, 20, 0) comes(2, 0) wave(0, 1) = 50 rides(0, 1) = -4 rides(1, 1) = 30 rides(2, 1) = 30");
    runs.run("34 of several the first GROUP goes", STATION + "group(0, 50, 0) group(0, 30, 0) group(0, 20, 0) comes(2, 0) rides(0, 1) = 30 rides(1, 1) = -4 rides(2, 1) = -4");
    runs.run("34 then the next one", STATION + "group(0, 20, 0) group(0, 30, 0) group(0, 30, 0) comes(2, 0) rides(0, 1) = 30 rides(1, 1) = 30 rides(2, 1) = -4");
    runs.run("34 the least vehicle", STATION + "group(0, 50, 0) comes(2, 0) comes(2, 0) rides(0, 1) = 10 rides(0, 2) = 10");
    runs.run("34 vehicle by vehicle, ride by ride", STATION + "group(0, 50, 0) * 3 comes(2, 0) comes(2, 0) rides(0, 2) = 30 rides(1, 2) = 31 rides(2, 2) = 40");
    runs.run("34 in the least ride, even where another would fit as well", STATION + "group(0, 20, 0) group(0, 50, 0) comes(2, 0) comes(2, 0) rides(0, 1) = 20 rides(1, 1) = 30");
    runs.run("34 the first one's least ride, where most go", STATION + "group(0, 20, 0) group(0, 300, 0) comes(3, 0) comes(2, 0) wave(0, 1) = 320 rides(0, 1) = 30 rides(1, 1) = 20");
    runs.run("34 the first one stays where that sends most", STATION + "group(0, 1, 0) group(0, 50, 0) comes(2, 0) wave(0, 1) = 50 rides(0, 1) = -4 rides(1, 1) = 20");
    runs.run("34 by its rides", STATION + "group(0, 50, 0) group(0, 50, 0) comes(2, 0) rides(1, 1) = -4 rides(1, 2) = 21 rides(0, 2) = 20");
    runs.run("34 BODY 39", STATION + "group(0, 5, 0) comes(5, 0) * 38 comes(2, 0) = 39 rides(0, 1) = 390");
  }

  private static void waveRefusals() {
    runs.run("33 CELL -1", ALL_KINDS + "wave(-1, 1) ! -1");
    runs.run("33 CELL behind the last", ALL_KINDS + "wave(2, 1) ! -1");
    runs.runEach("33 CELL far off", FAR_OFF, ALL_KINDS + "wave(#, 1) ! -1");
    runs.run("33 0 rides", ALL_KINDS + "wave(0, 0) ! -1");
    runs.run("33 3 rides", ALL_KINDS + "wave(0, 2) = 9 wave(0, 3) ! -1");
    runs.runEach("33 rides far off", FAR_OFF, ALL_KINDS + "wave(0, #) ! -1");
    runs.run("33 a CAMP", TWO + "wave(0, 1) ! -3 wave(0, 2) ! -3");
    runs.run("33 a HILL", "cell(1, 0, 0) wave(0, 1) ! -3");
    runs.run("33 a WALL", "cell(2, 0, 0) wave(0, 1) ! -3");
    runs.run("33 out of range ahead of no STATION", ALL_KINDS + "wave(1, 0) ! -1 wave(1, 3) ! -1 wave(1, 1) ! -3");
  }

  private static void rideRefusals() {
    runs.run("34 GROUP -1", ALL_KINDS + "rides(-1, 1) ! -1");
    runs.run("34 GROUP behind the last BODY", ALL_KINDS + "rides(6, 1) ! -1");
    runs.runEach("34 GROUP far off", FAR_OFF, ALL_KINDS + "rides(#, 1) ! -1");
    runs.runEach("34 no GROUP, but another BODY", NO_GROUPS, ALL_KINDS + "rides(#, 1) ! -1");
    runs.run("34 0 rides", ALL_KINDS + "rides(0, 0) ! -1");
    runs.run("34 3 rides", ALL_KINDS + "rides(0, 2) = 20 rides(0, 3) ! -1");
    runs.runEach("34 rides far off", FAR_OFF, ALL_KINDS + "rides(0, #) ! -1");
    for (int sort = 0; sort < 3; sort++) {
      runs.run("34 it is in SORT " + sort, "cell(" + sort + ", 0, 0) group(0, 5, 0) comes(2, 0) rides(0, 1) ! -3");
    }
    runs.run("34 it is on a WAY from a STATION to a STATION", "cell(3, 0, 0) cell(3, 0, 0) way(0, 1, 105) group(0, 5, 0) aim(0, 0, 1) comes(2, 0) go(1) rides(0, 1) ! -3");
    runs.run("34 out of range ahead of no STATION", ALL_KINDS + "group(1, 5, 0) = 6 rides(6, 1) ! -3 rides(6, 0) ! -1 rides(6, 3) ! -1");
    runs.run("34 in no STATION ahead of none", STATION + "group(1, 5, 0) rides(0, 1) ! -3");
  }

  private static void rounds() {
    String ten = TWO + "group(0, 10, 0) * 5 ";
    runs.run("35 k 1 is the least", ten + "round(1, 10) = 0 slot(1, 10, 0) = 0");
    runs.run("35 k 5 is the most", ten + "round(5, 20) = 3");
    runs.run("35 gate 1 is the least", TWO + "group(0, 1, 0) round(1, 1) = 0 group(0, 2, 0) round(2, 1) = -4");
    runs.run("35 gate 2000 is the greatest", TWO + "group(0, 400, 0) * 5 round(5, 2000) = 0 round(5, 1999) = 1");
    runs.run("35 just so many HEADS in a SLOT", ten + "round(2, 20) = 0 round(5, 50) = 0");
    runs.run("35 one HEAD too many in a SLOT", ten + "round(2, 19) = 2 round(5, 49) = 1");
    runs.run("35 there is none", ten + "round(1, 9) = -4 round(4, 10) = -4 round(5, 19) = -4");
    runs.run("35 GROUPS by numbers of GROUPS, not of BODIES", TWO + "comes(2, 0) group(0, 10, 0) stray(0, 0, 1, -1) group(1, 30, 0) round(1, 10) = 0 round(2, 30) = 2 round(2, 40) = 0 round(3, 40) ! -1");
    runs.run("35 wherever they are", TWO + "way(0, 1, 130) group(0, 10, 0) group(1, 10, 0) aim(0, 0, 1) go(1) round(2, 10) = 2");
    runs.run("35 HEADS as they are now", TWO + "group(0, 50, 0) round(1, 48) = -4 heat(0, 60) go(26) body(0, 4) = 48 round(1, 48) = 0");
    runs.run("35 a GROUP without HEADS", TWO + "group(0, 1, 0) heat(0, 60) go(26) body(0, 4) = 0 group(0, 10, 0) round(1, 1) = 0 round(2, 10) = 0 slot(2, 10, 0) = 0 slot(2, 10, 1) = 0");
    runs.run("36 of several the first GROUP's least SLOT", ten + "slot(2, 10, 0) = 0 slot(2, 10, 1) = 2");
    runs.run("36 then the next one's", ten + "slot(5, 20, 0) = 0 slot(5, 20, 1) = 0 slot(5, 20, 2) = 1 slot(5, 20, 3) = 2 slot(5, 20, 4) = 3");
    runs.run("36 the greatest SLOT least comes first", TWO + "group(0, 10, 0) group(0, 20, 0) group(0, 20, 0) round(3, 40) = 1 slot(3, 40, 0) = 0",
        "slot(3, 40, 1) = 0 slot(3, 40, 2) = 1");
    runs.run("36 each k and each gate has its own", ten + "slot(3, 20, 2) = 1 slot(3, 30, 2) = 0 slot(4, 20, 3) = 2 slot(3, 10, 2) = 4");
  }

  private static void late() {
    String ten = TWO + "group(0, 10, 0) * 5 ";
    runs.run("35 any one may come a SLOT later", ten + "round(2, 10) = 2");
    runs.run("35 any one, but not two", ten + "round(3, 20) = 1 round(4, 20) = 2");
    runs.run("35 the greatest of those that may be LATE", TWO + "group(0, 5, 0) group(0, 20, 0) group(0, 6, 0) round(3, 25) = 2 round(3, 26) = 1 slot(3, 26, 2) = 1");
    runs.run("35 the one ahead that is LATE leaves its own SLOT", TWO + "group(0, 20, 0) group(0, 10, 0) group(0, 10, 0) round(3, 20) = 2 slot(3, 20, 0) = 0 slot(3, 20, 1) = 2 slot(3, 20, 2) = 2");
    runs.run("35 that in the SLOT ahead of the greatest comes in the SLOT behind it", ten + "round(3, 10) = 4 slot(3, 10, 2) = 4");
    runs.run("35 SLOT 5 is the last", TWO + "group(0, 10, 0) group(0, 20, 0) group(0, 20, 0) group(0, 10, 0) group(0, 10, 0) round(5, 30) = 3 round(5, 20) = 5 round(5, 19) = -4");
    runs.run("37 SLOT 5, LATE then in none", ten + "bytes(0, 5) judge(0, 10) = -4");
    runs.run("37 SLOT 5, LATE not in SLOT 0", ten + "bytes(0, 5, 0) judge(0, 10) = -4");
    runs.run("37 SLOT 4, LATE in SLOT 5", ten + "bytes(0, 4, 5) judge(0, 10) = 105 judge(0, 19) = 105 judge(0, 20) = -4");
  }

  private static void roundRefusals() {
    String three = ALL_KINDS + "group(0, 9, 0) group(0, 9, 0) ";
    runs.run("35 k 0", three + "round(0, 10) ! -1");
    runs.run("35 k -1", three + "round(-1, 10) ! -1");
    runs.run("35 k of fewer GROUPS", three + "round(3, 100) = 0 round(4, 100) ! -1 round(5, 100) ! -1");
    runs.run("35 k 6", TWO + "group(0, 1, 0) * 7 round(5, 10) = 0 round(6, 10) ! -1 round(7, 10) ! -1");
    runs.run("35 no GROUPS", TWO + "round(1, 10) ! -1 round(0, 10) ! -1");
    runs.runEach("35 k far off", FAR_OFF, three + "round(#, 10) ! -1");
    runs.run("35 gate 0", three + "round(1, 0) ! -1");
    runs.run("35 gate -1", three + "round(1, -1) ! -1");
    runs.run("35 gate 2001", three + "round(1, 2001) ! -1");
    runs.runEach("35 gate far off", FAR_OFF, three + "round(1, #) ! -1");
  }

  private static void slotRefusals() {
    String three = ALL_KINDS + "group(0, 9, 0) group(0, 9, 0) ";
    runs.run("36 k 0", three + "slot(0, 10, 0) ! -1");
    runs.run("36 k of fewer GROUPS", three + "slot(3, 100, 0) = 0 slot(4, 100, 0) ! -1");
    runs.run("36 k 6", TWO + "group(0, 1, 0) * 7 slot(5, 10, 4) = 0 slot(6, 10, 0) ! -1 slot(6, 10, 5) ! -1");
    runs.runEach("36 k far off", FAR_OFF, three + "slot(#, 10, 0) ! -1");
    runs.run("36 gate 0", three + "slot(1, 0, 0) ! -1");
    runs.run("36 gate 2001", three + "slot(1, 2000, 0) = 0 slot(1, 2001, 0) ! -1");
    runs.runEach("36 gate far off", FAR_OFF, three + "slot(1, #, 0) ! -1");
    runs.run("36 i -1", three + "slot(3, 100, -1) ! -1");
    runs.run("36 i behind the last", three + "slot(3, 100, 2) = 0 slot(3, 100, 3) ! -1 slot(1, 100, 1) ! -1");
    runs.runEach("36 i far off", FAR_OFF, three + "slot(3, 100, #) ! -1");
    runs.run("36 there is none", three + "slot(3, 8, 0) = -4 slot(3, 8, 2) = -4");
    runs.run("36 out of range ahead of none", three + "slot(3, 8, 3) ! -1 slot(3, 8, -1) ! -1");
  }

  private static void judged() {
    String ten = TWO + "group(0, 10, 0) * 5 ";
    runs.run("37 it is a ROUND", ten + "bytes(0, 0, 2, 4) judge(0, 10) = -4");
    runs.run("37 a ROUND that is not THE ROUND", ten + "bytes(0, 5, 3, 0) judge(0, 10) = -4");
    runs.run("37 of 1 GROUP", ten + "bytes(0, 3) judge(0, 10) = -4 judge(0, 9) = 103");
    runs.run("37 of 5 GROUPS", ten + "bytes(0, 0, 0, 1, 2, 3) judge(0, 20) = -4");
    runs.run("37 SLOT 0 and SLOT 5 are SLOTS", ten + "bytes(0, 0, 5) judge(0, 10) = -4");
    runs.run("37 6 is no SLOT", ten + "bytes(0, 0, 6, 3) judge(0, 10) = 1");
    runs.run("37 -1 is no SLOT", ten + "bytes(0, 0, 2, -1) judge(0, 10) = 2");
    runs.run("37 127 and -128 are no SLOTS", ten + "bytes(0, 127) judge(0, 10) = 0 put(0, 0, -128) judge(0, 10) = 0");
    runs.run("37 the first place that is no SLOT", ten + "bytes(0, 0, 6, -1, 9) judge(0, 10) = 1");
    runs.run("37 no SLOT ahead of too many", ten + "bytes(0, 0, 0, 0, 6) judge(0, 10) = 3");
    runs.run("37 too many in SLOT 0", ten + "bytes(0, 0, 0) judge(0, 19) = 100 judge(0, 20) = -4");
    runs.run("37 the first SLOT in which too many may come", ten + "bytes(0, 4, 4, 2, 2) judge(0, 10) = 102");
    runs.run("37 too many, who is LATE with them", ten + "bytes(0, 0, 1) judge(0, 10) = 101");
    runs.run("37 the SLOT in which they come, not that in which they should", ten + "bytes(0, 3, 2) judge(0, 10) = 103");
    runs.run("37 one LATE alone", ten + "bytes(0, 0, 0, 1) judge(0, 20) = -4 judge(0, 19) = 100");
    runs.run("37 the greatest of those that may be LATE", TWO + "group(0, 5, 0) group(0, 20, 0) group(0, 6, 0) bytes(0, 0, 0, 1) judge(0, 25) = 101 judge(0, 26) = -4");
    runs.run("37 of the first GROUPS", TWO + "comes(2, 0) group(0, 9, 0) group(0, 99, 0) bytes(0, 0) judge(0, 9) = -4 judge(0, 8) = 100");
  }

  private static void judgeRefusals() {
    String two = ALL_KINDS + "group(0, 10, 0) ";
    runs.run("37 gate 0", two + "bytes(0, 1) judge(0, 0) ! -1");
    runs.run("37 gate 1 is the least", TWO + "group(0, 1, 0) bytes(0, 1) judge(0, 1) = -4");
    runs.run("37 gate 2000 is the greatest", TWO + "group(0, 1, 0) bytes(0, 1) judge(0, 2000) = -4");
    runs.run("37 gate 2001", two + "bytes(0, 1) judge(0, 2001) ! -1");
    runs.runEach("37 gate far off", FAR_OFF, two + "bytes(0, 1) judge(0, #) ! -1");
    runs.run("37 SHELF -1", two + "judge(-1, 10) ! -1");
    runs.run("37 SHELF 7 is the last", two + "bytes(7, 1) judge(7, 10) = -4 judge(8, 10) ! -1");
    runs.runEach("37 SHELF far off", FAR_OFF, two + "judge(#, 10) ! -1");
    runs.run("37 nothing is held", two + "judge(0, 10) ! -11");
    runs.run("37 a BODY", two + "keep(0, 1, 0) judge(0, 10) ! -12");
    runs.run("37 a ROW of shorts", two + "shorts(0, 1) judge(0, 10) ! -12");
    runs.run("37 a ROW of ints", two + "ints(0, 1) judge(0, 10) ! -12");
    runs.run("37 none of them", two + "row(0, 0, 0) judge(0, 10) ! -13");
    runs.run("37 more than GROUPS", two + "bytes(0, 0, 1) judge(0, 20) = -4 bytes(0, 0, 1, 2) judge(0, 20) ! -13");
    runs.run("37 6 of them", TWO + "group(0, 1, 0) * 7 row(0, 0, 5) judge(0, 20) = -4 row(0, 0, 6) judge(0, 20) ! -13 row(0, 0, 7) judge(0, 20) ! -13");
    runs.run("37 no GROUPS", TWO + "bytes(0, 0) judge(0, 20) ! -13");
    runs.run("37 gate ahead of what the SHELF holds", two + "judge(0, 0) ! -1 judge(0, 2001) ! -1 keep(0, 1, 0) judge(0, 0) ! -1 row(0, 0, 0) judge(0, 0) ! -1");
    runs.run("37 another kind ahead of not 1 .. 5", two + "row(0, 1, 0) judge(0, 10) ! -12 row(0, 2, 9) judge(0, 10) ! -12");
    runs.run("37 not 1 .. 5 ahead of what is no SLOT", two + "bytes(0, 9, 9, 9) judge(0, 10) ! -13");
  }

  /** 90 HEADS go by WAY 0 (PRESS 90), or round about by WAYS 1 (30) and 2 (45). */
  private static final String CROSSING =
      TWO + "cell(0, 0, 0) way(0, 1, 110) way(0, 2, 305) way(2, 1, 205) group(0, 90, 0) aim(0, 0, 1) ";

  private static void worst() {
    runs.run("38 without a CHANGE", CROSSING + "worst(-1, 0, 20) = 90");
    runs.run("38 with one", CROSSING + "worst(0, 3, 20) = 45 worst(0, 2, 20) = 45 worst(0, 0, 20) = 90 worst(0, 1, 20) = 90");
    runs.run("38 without a WAY any SIGN", CROSSING + "worst(-1, 1, 20) = 90 worst(-1, 3, 20) = 90");
    runs.run("38 1 MINUTE is the least", CROSSING + "worst(-1, 0, 1) = 0 worst(-1, 0, 2) = 90");
    runs.run("38 120 MINUTES are the most", CROSSING + "worst(0, 3, 120) = 45");
    runs.run("38 of n MINUTES, not one more", CROSSING + "unaim(0) aim(0, 118, 1) worst(-1, 0, 119) = 0 worst(-1, 0, 120) = 80");
    runs.run("38 the greatest of all, not the last", CROSSING + "worst(0, 3, 7) = 45 worst(0, 3, 6) = 30");
    runs.run("38 the PRESS of MINUTES that went by does not count", CROSSING + "go(2) about(0, 5) = 90 sign(1, 3) pass(100) body(0, 1) = 1 about(0, 5) = 0 worst(-1, 0, 9) = 0");
    runs.run("38 in mind: nothing of it stays", CROSSING + "worst(0, 3, 60) = 45 count(4) = 0 about(0, 4) = 0 about(1, 5) = 0 body(0, 1) = 0 count(6) = 90 record(0, 0) ! -3 was(0, 0) ! -3 worst(-1, 0, 20) = 90 go(20) = 90");
    runs.run("38 in mind: WATER and rites, too", "cell(1, 0, 500) group(0, 9, 0) pass(700) worst(-1, 0, 60) = 0 body(0, 9) = 0 count(11) = 284 go(60) body(0, 9) = 40");
    runs.run("38 POSTS shut in mind, too", TWO + "way(0, 1, 105) group(0, 90, 0) aim(0, 0, 1) post(0) tell(\"m<5\") = 0 force(8, 0) worst(-1, 0, 6) = 0 worst(-1, 0, 7) = 90");
    runs.run("38 SHADE in mind, too", "cell(0, 9, 0) cell(0, 9, 0) way(0, 1, 130) group(0, 100, 0) aim(0, 100, 1) worst(-1, 0, 110) = 100 heat(1, 60) worst(-1, 0, 110) = 97");
    runs.run("38 WATER in mind, too", "cell(0, 0, 9999) cell(0, 9, 0) way(0, 1, 130) group(0, 100, 0) aim(0, 100, 1) worst(-1, 0, 110) = 100 worst(-1, 0, 110) = 100");
    runs.run("38 AIMS and HEADS on WAYS in mind, too", TWO + "way(0, 1, 105) way(0, 1, 130) group(0, 30, 0) group(0, 50, 0) aim(0, 0, 1) go(2) aim(1, 3, 1) worst(-1, 0, 1) = 30 worst(-1, 0, 3) = 80");
    runs.run("38 every BODY in mind, too", TWO + "way(0, 1, 130) comes(2, 0) * 30 group(0, 90, 0) = 30 aim(30, 1, 1) worst(-1, 0, 3) = 90 go(3) = 90 group(0, 9, 0) = 31 aim(31, 3, 1) worst(-1, 0, 1) = 85 worst(-1, 0, 3) = 88 go(3) = 88");
    runs.run("38 PUSH in mind, too", TWO + "way(0, 1, 130) group(0, 90, 0) aim(0, 0, 1) group(0, 30, 0) aim(1, 4, 1) go(3) about(0, 6) = 40 worst(-1, 0, 5) = 99 go(5) = 99");
    runs.run("38 THE IMAGE stays", CROSSING + "image() heat(0, 5) worst(0, 3, 20) = 45 restore() = 0 heat(0, 5) = 30");
    runs.run("38 to the last MINUTE", CROSSING + "pass(4200) worst(-1, 0, 120) = 0 worst(0, 3, 120) = 0");
  }

  private static void worstRefusals() {
    runs.run("38 WAY -2", CROSSING + "worst(-2, 0, 9) ! -1");
    runs.run("38 WAY behind the last", CROSSING + "worst(2, 0, 9) = 90 worst(3, 0, 9) ! -1");
    runs.runEach("38 WAY far off", FAR_OFF, CROSSING + "worst(#, 0, 9) ! -1");
    runs.run("38 no WAYS", TWO + "worst(0, 0, 9) ! -1 worst(-1, 0, 9) = 0");
    runs.run("38 WAY 23", TWO + "way(0, 1, 101) * 24 worst(23, 3, 9) = 0 worst(24, 3, 9) ! -1");
    runs.run("38 SIGN -1", CROSSING + "worst(0, -1, 9) ! -1");
    runs.run("38 SIGN 4", CROSSING + "worst(0, 4, 9) ! -1");
    runs.run("38 SIGN without a WAY, too", CROSSING + "worst(-1, -1, 9) ! -1 worst(-1, 4, 9) ! -1");
    runs.runEach("38 SIGN far off", FAR_OFF, CROSSING + "worst(0, #, 9) ! -1 worst(-1, #, 9) ! -1");
    runs.run("38 0 MINUTES", CROSSING + "worst(0, 0, 0) ! -1 worst(-1, 0, 0) ! -1");
    runs.run("38 -1 MINUTES", CROSSING + "worst(0, 0, -1) ! -1");
    runs.run("38 121 MINUTES", CROSSING + "worst(0, 0, 121) ! -1 worst(-1, 0, 121) ! -1");
    runs.runEach("38 MINUTES far off", FAR_OFF, CROSSING + "worst(0, 0, #) ! -1");
    runs.run("38 one beyond 4320", CROSSING + "pass(4201) worst(0, 0, 119) = 0 worst(0, 0, 120) ! -2 worst(-1, 0, 120) ! -2");
    runs.run("38 at the end", CROSSING + "pass(4320) worst(-1, 0, 1) ! -2");
    runs.run("38 out of range ahead of beyond", CROSSING + "pass(4320) worst(3, 0, 1) ! -1 worst(-2, 0, 1) ! -1 worst(0, 4, 1) ! -1 worst(-1, 4, 1) ! -1 worst(0, 0, 0) ! -1 worst(0, 0, 121) ! -1");
  }

  private static void best() {
    runs.run("39 the one with the least WORST", TWO + "cell(0, 0, 0) way(0, 1, 110) way(0, 2, 305) way(2, 1, 310) sign(1, 3) group(0, 90, 0) aim(0, 0, 1) worst(0, 2, 20) = 0 best(20) = 2");
    runs.run("39 the first of several", CROSSING + "best(20) = 2 worst(0, 2, 20) = 45 worst(0, 3, 20) = 45");
    runs.run("39 those that change nothing too", CROSSING + "best(1) = 0 sign(0, 1) best(1) = 0");
    runs.run("39 by WAY, then SIGN", TWO + "cell(0, 0, 0) way(1, 2, 105) way(0, 1, 105) group(0, 50, 0) aim(0, 0, 1) best(9) = 12 worst(1, 2, 9) = 0 worst(1, 3, 9) = 0");
    runs.run("39 SIGN 3", TWO + "way(0, 1, 110) group(0, 20, 0) group(1, 20, 0) aim(0, 0, 1) aim(1, 0, 0) worst(0, 0, 9) = 40 worst(0, 1, 9) = 20 worst(0, 2, 9) = 20 best(9) = 3");
    runs.run("39 a SIGN that opens", TWO + "cell(0, 0, 0) way(0, 1, 110) way(0, 1, 6009) sign(1, 3) group(0, 90, 0) aim(0, 0, 1) worst(1, 0, 20) = 1 worst(1, 1, 20) = 1 worst(0, 2, 20) = 0 best(20) = 2");
    runs.run("39 a SIGN that opens, where going cannot be stopped", TWO + "cell(0, 0, 0) way(0, 1, 110) way(1, 2, 110) way(1, 2, 6005) sign(2, 3) group(0, 60, 0) group(1, 70, 0) aim(0, 0, 1) aim(1, 2, 2) go(2)",
        "worst(-1, 0, 9) = 70 worst(1, 3, 9) = 60 worst(2, 0, 9) = 60 worst(2, 1, 9) = 60 best(9) = 12 sign(1, 2) best(9) = 0");
    String eight = "cell(0, 0, 0) * 10 way(0, 1, 105) way(0, 2, 105) way(0, 3, 105) way(0, 4, 105) way(0, 5, 105) way(0, 6, 105) way(0, 7, 105) way(0, 8, 105) way(0, 9, 105) group(0, 50, 0) ";
    runs.run("39 WAY 7 is the last", eight + "aim(0, 0, 8) best(9) = 72");
    runs.run("39 WAY 8 is none of them", eight + "aim(0, 0, 9) worst(8, 3, 9) = 0 best(9) = 0");
    runs.run("39 one WAY", TWO + "way(0, 1, 105) group(0, 50, 0) aim(0, 0, 1) best(9) = 2");
    runs.run("39 in mind: nothing of it stays", CROSSING + "best(60) = 2 count(4) = 0 about(0, 4) = 0 body(0, 1) = 0 record(0, 0) ! -3 go(20) = 90");
    runs.run("39 THE IMAGE stays", CROSSING + "image() heat(0, 5) best(20) = 2 restore() = 0 heat(0, 5) = 30");
    runs.run("39 1 MINUTE is the least", CROSSING + "best(1) = 0");
    runs.run("39 120 MINUTES are the most", CROSSING + "best(120) = 2");
    runs.run("39 to the last MINUTE", CROSSING + "pass(4200) best(120) = 0");
  }

  private static void bestRefusals() {
    runs.run("39 no WAY", TWO + "best(1) = -4 best(120) = -4");
    runs.run("39 0 MINUTES", CROSSING + "best(0) ! -1");
    runs.run("39 -1 MINUTES", CROSSING + "best(-1) ! -1");
    runs.run("39 121 MINUTES", CROSSING + "best(121) ! -1");
    runs.runEach("39 MINUTES far off", FAR_OFF, CROSSING + "best(#) ! -1");
    runs.run("39 one beyond 4320", CROSSING + "pass(4201) best(119) = 0 best(120) ! -2");
    runs.run("39 at the end", CROSSING + "pass(4320) best(1) ! -2");
    runs.run("39 out of range ahead of beyond", CROSSING + "pass(4320) best(0) ! -1 best(121) ! -1");
    runs.run("39 out of range ahead of no WAY", TWO + "best(0) ! -1 best(121) ! -1");
    runs.run("39 beyond ahead of no WAY", TWO + "pass(4320) best(1) ! -2");
  }
}
