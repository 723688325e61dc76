/** Edges of SHELVES and of promises 43 to 49, a run for a sentence. */
public final class ShelvesEdgesTest {
  private static final Runs runs = new Runs("ShelvesEdgesTest");
  private static final String TWO = "cell(0, 0, 99999) cell(0, 0, 99999) ";
  /** GROUP 0, STRAY 1, BUS 2, TRAIN 3, POST 4 at WAY 1, LITTER 5. */
  private static final String ALL_KINDS = TWO + "way(0, 1, 105) way(0, 1, 105) "
      + "group(0, 20, 0) stray(0, 0, 44, -1) comes(2, 0) comes(3, 1) post(1) comes(5, 0) ";
  private static final int[] FAR_OFF = {Integer.MIN_VALUE, Integer.MAX_VALUE};

  public static void main(String[] args) {
    keep();
    keepRefusals();
    row();
    rowRefusals();
    bytes();
    shorts();
    ints();
    putRefusals();
    element();
    copy();
    copyRefusals();
    copyOrder();
    weight();
    weightAsThen();
    toss();
    tossRefusals();
    runs.end();
  }

  private static void keep() {
    runs.run("43 SHELF 0 is the first", ALL_KINDS + "keep(0, 1, 0) = 0 weight(0) = 30");
    runs.run("43 SHELF 7 is the last", ALL_KINDS + "keep(7, 1, 0) = 0 weight(7) = 30");
    runs.run("43 BODY 0 is the first", ALL_KINDS + "keep(0, 1, 0) = 0 toss(0) = 0");
    runs.run("43 the last BODY", ALL_KINDS + "keep(0, 1, 5) = 0 weight(0) = 11");
    runs.run("43 BODY 39", TWO + "comes(2, 0) * 39 comes(3, 0) = 39 keep(0, 1, 39) = 0 toss(0) = 139 keep(0, 1, 40) ! -1");
    runs.run("43 nothing", ALL_KINDS + "keep(0, 1, 0) keep(0, 0, 0) = 0 weight(0) ! -11");
    runs.run("43 nothing: the others do not matter", "keep(0, 0, 0) = 0 keep(0, 0, -1) = 0 keep(0, 0, 99) = 0 keep(7, 0, " + Integer.MAX_VALUE + ") = 0 keep(7, 0, " + Integer.MIN_VALUE + ") = 0");
    runs.run("43 nothing in place of a ROW", "row(0, 0, 3) keep(0, 0, 0) = 0 put(0, 0, 1) ! -11 element(0, 0) ! throws.IllegalStateException");
    runs.run("43 a BODY in place of a ROW", ALL_KINDS + "row(0, 0, 3) keep(0, 1, 0) = 0 put(0, 0, 1) ! -12 weight(0) = 30");
    runs.run("43 a BODY in place of a BODY", ALL_KINDS + "keep(0, 1, 0) keep(0, 1, 3) = 0 weight(0) = 820");
    runs.run("43 one BODY on two SHELVES", ALL_KINDS + "keep(0, 1, 2) = 0 keep(1, 1, 2) = 0 weight(0) = 160 weight(1) = 160");
    runs.run("43 every SHELF holds its own", ALL_KINDS + "keep(0, 1, 0) keep(1, 1, 1) keep(2, 1, 2) keep(3, 1, 3) keep(4, 1, 4) keep(5, 1, 5) row(6, 0, 2)",
        "weight(0) = 30 weight(1) = 55 weight(2) = 160 weight(3) = 820 weight(4) = 211 weight(5) = 11 weight(6) ! -12 weight(7) ! -11");
  }

  private static void keepRefusals() {
    String held = ALL_KINDS + "keep(0, 1, 0) bytes(1, 7, 8) ";
    runs.run("43 SHELF -1", held + "keep(-1, 1, 0) ! -1");
    runs.run("43 SHELF 8", held + "keep(8, 1, 0) ! -1");
    runs.run("43 no SHELF for nothing", held + "keep(-1, 0, 0) ! -1 keep(8, 0, 0) ! -1");
    runs.runEach("43 SHELF far off", FAR_OFF, held + "keep(#, 1, 0) ! -1 keep(#, 0, 0) ! -1");
    runs.run("43 what -1", held + "keep(0, -1, 0) ! -1 keep(1, -1, 0) ! -1");
    runs.run("43 what 2", held + "keep(0, 2, 0) ! -1 keep(1, 2, 0) ! -1");
    runs.runEach("43 what far off", FAR_OFF, held + "keep(0, #, 0) ! -1");
    runs.run("43 BODY -1", held + "keep(0, 1, -1) ! -1 keep(1, 1, -1) ! -1");
    runs.run("43 BODY behind the last", held + "keep(0, 1, 6) ! -1 keep(1, 1, 6) ! -1");
    runs.runEach("43 BODY far off", FAR_OFF, held + "keep(0, 1, #) ! -1");
    runs.run("43 no BODIES", "keep(0, 1, 0) ! -1");
  }

  private static void row() {
    runs.run("44 SHELF 0 is the first, SHELF 7 the last", "row(0, 0, 1) = 0 row(7, 0, 1) = 0 element(0, 0) = 0 element(7, 0) = 0");
    runs.run("44 SORT 0 is the first", "row(0, 0, 1) = 0 put(0, 0, 128) element(0, 0) = -128");
    runs.run("44 SORT 2 is the last", "row(0, 2, 1) = 0 put(0, 0, 128) element(0, 0) = 128");
    runs.run("44 0 elements are the fewest", "row(0, 0, 0) = 0 put(0, 0, 1) ! -13 element(0, 0) ! throws.IllegalStateException row(0, 1, 0) = 0 row(0, 2, 0) = 0");
    runs.run("44 80 elements are the most", "row(0, 0, 80) = 0 put(0, 79, 5) = 0 element(0, 79) = 5 put(0, 80, 1) ! -13 row(1, 1, 80) = 0 put(1, 79, 5) = 0 row(2, 2, 80) = 0 put(2, 79, 5) = 0");
    runs.run("44 0 at first", "row(0, 2, 80) element(0, 0) = 0 element(0, 40) = 0 element(0, 79) = 0");
    runs.run("44 0 at first, where another ROW was", "ints(0, 5, 6, 7) row(0, 2, 3) element(0, 0) = 0 element(0, 1) = 0 element(0, 2) = 0");
    runs.run("44 0 at first, where a longer ROW was", "ints(0, 5, 6, 7) row(0, 0, 1) row(0, 2, 3) element(0, 0) = 0 element(0, 1) = 0 element(0, 2) = 0");
    runs.run("44 in place of a BODY", ALL_KINDS + "keep(0, 1, 0) row(0, 1, 2) = 0 weight(0) ! -12 element(0, 1) = 0");
    runs.run("44 every SHELF has its own", "ints(0, 5) ints(1, 6) element(0, 0) = 5 put(1, 0, 7) element(0, 0) = 5");
  }

  private static void rowRefusals() {
    String held = ALL_KINDS + "keep(0, 1, 0) bytes(1, 7, 8) ";
    runs.run("44 SHELF -1", held + "row(-1, 0, 1) ! -1");
    runs.run("44 SHELF 8", held + "row(8, 0, 1) ! -1");
    runs.runEach("44 SHELF far off", FAR_OFF, held + "row(#, 0, 1) ! -1");
    runs.run("44 SORT -1", held + "row(0, -1, 1) ! -1 row(1, -1, 1) ! -1");
    runs.run("44 SORT 3", held + "row(0, 3, 1) ! -1 row(1, 3, 1) ! -1");
    runs.runEach("44 SORT far off", FAR_OFF, held + "row(0, #, 1) ! -1");
    runs.run("44 81 elements", held + "row(0, 0, 81) ! -1 row(1, 1, 81) ! -1 row(1, 2, 81) ! -1");
    runs.run("44 elements far too many", held + "row(1, 0, " + Integer.MAX_VALUE + ") ! -1");
    runs.run("44 -1 elements", held + "row(0, 0, -1) ! -14 row(1, 0, -1) ! -14 row(1, 2, -1) ! -14");
    runs.run("44 elements far below 0", held + "row(1, 0, " + Integer.MIN_VALUE + ") ! -14");
    runs.run("44 no SHELF ahead of a size below 0", held + "row(8, 0, -1) ! -1 row(-1, 0, -1) ! -1");
    runs.run("44 no SORT ahead of a size below 0", held + "row(0, 3, -1) ! -1 row(0, -1, -1) ! -1");
  }

  private static void put(int sort, int v, long due) {
    runs.run("45 lowest bits of " + v + " in SORT " + sort, "row(0, " + sort + ", 2) put(0, 1, " + v + ") = 0 element(0, 1) = " + due + " element(0, 0) = 0");
  }

  private static void bytes() {
    put(0, 0, 0);
    put(0, 127, 127);
    put(0, 128, -128);
    put(0, 255, -1);
    put(0, 256, 0);
    put(0, -1, -1);
    put(0, -128, -128);
    put(0, -129, 127);
    put(0, Integer.MAX_VALUE, -1);
    put(0, Integer.MIN_VALUE, 0);
    put(0, 4464, 112);
  }

  private static void shorts() {
    put(1, 0, 0);
    put(1, 32767, 32767);
    put(1, 32768, -32768);
    put(1, 65535, -1);
    put(1, 65536, 0);
    put(1, -1, -1);
    put(1, -32768, -32768);
    put(1, -32769, 32767);
    put(1, 128, 128);
    put(1, Integer.MAX_VALUE, -1);
    put(1, Integer.MIN_VALUE, 0);
  }

  private static void ints() {
    put(2, 0, 0);
    put(2, -1, -1);
    put(2, 32768, 32768);
    put(2, Integer.MAX_VALUE, Integer.MAX_VALUE);
    put(2, Integer.MIN_VALUE, Integer.MIN_VALUE);
  }

  private static void putRefusals() {
    runs.run("45 place 0 is the first, the last one is below the size", "row(0, 0, 3) put(0, 0, 1) = 0 put(0, 2, 3) = 0 element(0, 0) = 1 element(0, 1) = 0 element(0, 2) = 3");
    runs.run("45 put again", "row(0, 0, 3) put(0, 0, 1) = 0 put(0, 0, 2) = 0 element(0, 0) = 2");
    runs.run("45 SHELF -1", "ints(0, 7, 8) put(-1, 0, 1) ! -1");
    runs.run("45 SHELF 8", "ints(0, 7, 8) put(8, 0, 1) ! -1");
    runs.runEach("45 SHELF far off", FAR_OFF, "ints(0, 7, 8) put(#, 0, 1) ! -1");
    runs.run("45 nothing is held", "put(0, 0, 1) ! -11 put(7, 0, 1) ! -11");
    runs.run("45 a BODY", ALL_KINDS + "keep(0, 1, 0) put(0, 0, 1) ! -12");
    runs.run("45 place -1", "ints(0, 7, 8) put(0, -1, 1) ! -13");
    runs.run("45 place of the size", "ints(0, 7, 8) put(0, 2, 1) ! -13");
    runs.run("45 an empty ROW has no place", "row(0, 0, 0) put(0, 0, 1) ! -13");
    runs.run("45 a place that a longer ROW had", "row(0, 0, 9) row(0, 0, 2) put(0, 5, 1) ! -13");
    runs.runEach("45 place far off", FAR_OFF, "ints(0, 7, 8) put(0, #, 1) ! -13");
    runs.run("45 no SHELF ahead of no place", "put(8, -1, 1) ! -1");
    runs.run("45 nothing held ahead of no place", "put(0, -1, 1) ! -11 put(0, 99, 1) ! -11");
    runs.run("45 a BODY ahead of no place", ALL_KINDS + "keep(0, 1, 0) put(0, -1, 1) ! -12");
  }

  private static void element() {
    runs.run("46 every place", "ints(0, 7, 8, 9) element(0, 0) = 7 element(0, 1) = 8 element(0, 2) = 9");
    runs.run("46 SHELF 7", "ints(7, 7) element(7, 0) = 7");
    runs.run("46 SHELF -1", "ints(0, 7) element(-1, 0) ! throws.IllegalArgumentException");
    runs.run("46 SHELF 8", "ints(0, 7) element(8, 0) ! throws.IllegalArgumentException");
    runs.runEach("46 SHELF far off", FAR_OFF, "element(#, 0) ! throws.IllegalArgumentException");
    runs.run("46 nothing is held", "element(0, 0) ! throws.IllegalStateException");
    runs.run("46 a BODY", ALL_KINDS + "keep(0, 1, 0) element(0, 0) ! throws.IllegalStateException");
    runs.run("46 place -1", "ints(0, 7) element(0, -1) ! throws.IllegalStateException");
    runs.run("46 place of the size", "ints(0, 7) element(0, 1) ! throws.IllegalStateException");
    runs.run("46 an empty ROW", "row(0, 2, 0) element(0, 0) ! throws.IllegalStateException");
    runs.runEach("46 place far off", FAR_OFF, "ints(0, 7) element(0, #) ! throws.IllegalStateException");
    runs.run("46 no SHELF ahead of no place", "element(8, -1) ! throws.IllegalArgumentException element(-1, 99) ! throws.IllegalArgumentException");
    runs.run("46 place 79 of 80", "row(0, 0, 80) element(0, 79) = 0 element(0, 80) ! throws.IllegalStateException");
  }

  private static void copy() {
    String two = "ints(0, 1, 2, 3, 4, 5) ints(1, 6, 7, 8) ";
    runs.run("47 n elements", two + "copy(0, 1, 1, 0, 2) = 2 element(1, 0) = 2 element(1, 1) = 3 element(1, 2) = 8 element(0, 1) = 2");
    runs.run("47 1 element", two + "copy(0, 4, 1, 2, 1) = 1 element(1, 2) = 5 element(1, 1) = 7");
    runs.run("47 all elements", two + "copy(1, 0, 0, 2, 3) = 3 element(0, 1) = 2 element(0, 2) = 6 element(0, 4) = 8");
    runs.run("47 none", two + "copy(0, 0, 1, 0, 0) = 0 element(1, 0) = 6");
    runs.run("47 none just behind the last place", two + "copy(0, 5, 1, 3, 0) = 0 element(1, 2) = 8");
    runs.run("47 none of empty ROWS", "row(0, 0, 0) row(1, 0, 0) copy(0, 0, 1, 0, 0) = 0");
    runs.run("47 80 elements", "row(0, 1, 80) row(1, 1, 80) put(0, 79, 300) copy(0, 0, 1, 0, 80) = 80 element(1, 79) = 300");
    runs.run("47 onto itself, on", two + "copy(0, 0, 0, 1, 4) = 4 element(0, 0) = 1 element(0, 1) = 1 element(0, 2) = 2 element(0, 3) = 3 element(0, 4) = 4");
    runs.run("47 onto itself, back", two + "copy(0, 1, 0, 0, 4) = 4 element(0, 0) = 2 element(0, 1) = 3 element(0, 2) = 4 element(0, 3) = 5 element(0, 4) = 5");
    runs.run("47 onto the same place", two + "copy(0, 1, 0, 1, 3) = 3 element(0, 0) = 1 element(0, 1) = 2 element(0, 4) = 5");
    runs.run("47 of bytes", "bytes(0, 1, 200) bytes(1, 3) copy(0, 1, 1, 0, 1) = 1 element(1, 0) = -56");
    runs.run("47 of shorts", "shorts(0, 1, 40000) shorts(1, 3) copy(0, 1, 1, 0, 1) = 1 element(1, 0) = -25536");
    runs.run("47 SHELVES 0 and 7", "ints(0, 4) ints(7, 5) copy(0, 0, 7, 0, 1) = 1 element(7, 0) = 4");
  }

  private static void copyRefusals() {
    String two = "ints(0, 1, 2, 3, 4, 5) ints(1, 6, 7, 8) ";
    runs.run("47 SHELF d -1", two + "copy(-1, 0, 1, 0, 1) ! -1");
    runs.run("47 SHELF d 8", two + "copy(8, 0, 1, 0, 1) ! -1");
    runs.run("47 SHELF e -1", two + "copy(0, 0, -1, 0, 1) ! -1");
    runs.run("47 SHELF e 8", two + "copy(0, 0, 8, 0, 1) ! -1");
    runs.runEach("47 SHELF far off", FAR_OFF, two + "copy(#, 0, 1, 0, 1) ! -1 copy(0, 0, #, 0, 1) ! -1");
    runs.run("47 nothing in SHELF d", two + "copy(2, 0, 1, 0, 1) ! -11");
    runs.run("47 nothing in SHELF e", two + "copy(0, 0, 2, 0, 1) ! -11");
    runs.run("47 nothing in both", "copy(0, 0, 1, 0, 1) ! -11 copy(0, 0, 0, 0, 0) ! -11");
    runs.run("47 a BODY in SHELF d", ALL_KINDS + two + "keep(2, 1, 0) copy(2, 0, 1, 0, 1) ! -12");
    runs.run("47 a BODY in SHELF e", ALL_KINDS + two + "keep(2, 1, 0) copy(0, 0, 2, 0, 1) ! -12");
    runs.run("47 a BODY where a ROW was", ALL_KINDS + two + "row(2, 2, 5) keep(2, 1, 0) copy(0, 0, 2, 0, 1) ! -12 copy(2, 0, 0, 0, 1) ! -12");
    runs.run("47 a BODY and a ROW of bytes", ALL_KINDS + "bytes(0, 1) keep(2, 1, 0) copy(0, 0, 2, 0, 0) ! -12 copy(2, 0, 0, 0, 0) ! -12 copy(0, 0, 2, 0, 1) ! -12");
    runs.run("47 a BODY in both", ALL_KINDS + "keep(2, 1, 0) copy(2, 0, 2, 0, 0) ! -12");
    runs.run("47 no ROWS of one SORT", two + "row(2, 1, 5) row(3, 0, 5) copy(0, 0, 2, 0, 1) ! -12 copy(2, 0, 0, 0, 1) ! -12 copy(2, 0, 3, 0, 1) ! -12 copy(3, 0, 0, 0, 1) ! -12");
    runs.run("47 n -1", two + "copy(0, 0, 1, 0, -1) ! -13");
    runs.run("47 n far below 0", two + "copy(0, 0, 1, 0, " + Integer.MIN_VALUE + ") ! -13");
    runs.run("47 i -1", two + "copy(0, -1, 1, 0, 1) ! -13 copy(0, -1, 1, 0, 0) ! -13");
    runs.run("47 j -1", two + "copy(0, 0, 1, -1, 1) ! -13 copy(0, 0, 1, -1, 0) ! -13");
    runs.run("47 one too many from i on", two + "copy(1, 0, 0, 0, 4) ! -13 copy(1, 1, 0, 0, 3) ! -13 copy(1, 3, 0, 0, 1) ! -13");
    runs.run("47 one too many from j on", two + "copy(0, 0, 1, 0, 4) ! -13 copy(0, 0, 1, 1, 3) ! -13 copy(0, 0, 1, 3, 1) ! -13");
    runs.run("47 n far too many", two + "copy(0, 1, 1, 1, " + Integer.MAX_VALUE + ") ! -13 copy(0, 0, 1, 0, " + Integer.MAX_VALUE + ") ! -13");
    runs.runEach("47 a place far off", FAR_OFF, two + "copy(0, #, 1, 0, 1) ! -13 copy(0, 0, 1, #, 1) ! -13 copy(0, #, 1, #, 0) ! -13");
    runs.run("47 a place that wraps round", two + "copy(0, " + Integer.MAX_VALUE + ", 1, " + Integer.MAX_VALUE + ", " + Integer.MAX_VALUE + ") ! -13 copy(0, " + Integer.MIN_VALUE + ", 1, 0, " + Integer.MIN_VALUE + ") ! -13");
  }

  private static void copyOrder() {
    String two = ALL_KINDS + "ints(0, 1, 2) bytes(1, 6, 7) keep(2, 1, 0) ";
    runs.run("47 no SHELF ahead of nothing held", two + "copy(8, 0, 3, 0, 1) ! -1 copy(3, 0, 8, 0, 1) ! -1");
    runs.run("47 no SHELF ahead of another kind", two + "copy(-1, 0, 2, 0, 1) ! -1 copy(2, 0, -1, 0, 1) ! -1");
    runs.run("47 no SHELF ahead of no place", two + "copy(8, 0, 0, 0, -1) ! -1 copy(0, 9, 8, 0, 1) ! -1");
    runs.run("47 nothing held ahead of another kind", two + "copy(2, 0, 3, 0, 1) ! -11 copy(3, 0, 2, 0, 1) ! -11");
    runs.run("47 nothing held ahead of no place", two + "copy(0, 9, 3, 0, 1) ! -11 copy(3, 0, 0, 0, -1) ! -11");
    runs.run("47 another kind ahead of no place", two + "copy(0, 9, 1, 0, 1) ! -12 copy(0, 0, 1, 0, -1) ! -12 copy(2, 0, 0, -1, 1) ! -12 copy(0, -1, 2, 0, 1) ! -12");
  }

  private static void weight() {
    runs.run("48 a GROUP: 10, HEADS and AIMS", ALL_KINDS + "keep(0, 1, 0) weight(0) = 30 aim(0, 5, 1) aim(0, 6, 0) keep(0, 1, 0) weight(0) = 32");
    runs.run("48 a GROUP of 400 with 8 AIMS", TWO + "group(0, 400, 53) aim(0, 5, 1) * 8 keep(0, 1, 0) weight(0) = 418");
    runs.run("48 a GROUP without HEADS", "cell(0, 0, 0) group(0, 1, 0) go(51) keep(0, 1, 0) weight(0) = 10");
    runs.run("48 a STRAY: 10, 1 and AGE", ALL_KINDS + "keep(0, 1, 1) weight(0) = 55");
    runs.run("48 a STRAY of 0 and of 110", TWO + "stray(0, 0, 0, -1) stray(0, 0, 110, -1) keep(0, 1, 0) weight(0) = 11 keep(0, 1, 1) weight(0) = 121");
    runs.run("48 a STRAY that was FOUND: 10 and AGE", ALL_KINDS + "found(1, 0) keep(0, 1, 1) weight(0) = 54");
    runs.run("48 a BUS: 10, 50 and 100", ALL_KINDS + "keep(0, 1, 2) weight(0) = 160");
    runs.run("48 a TRAIN: twice 10, 300 and 100", ALL_KINDS + "keep(0, 1, 3) weight(0) = 820");
    runs.run("48 a POST: 10, 200 and its WAY", ALL_KINDS + "keep(0, 1, 4) weight(0) = 211");
    runs.run("48 a POST at WAY 0 and at WAY 23", TWO + "way(0, 1, 101) * 24 post(0) post(23) keep(0, 1, 0) weight(0) = 210 keep(0, 1, 1) weight(0) = 233");
    runs.run("48 a LITTER: 10 and 1", ALL_KINDS + "keep(0, 1, 5) weight(0) = 11");
    runs.run("48 SHELF -1", ALL_KINDS + "keep(0, 1, 0) weight(-1) ! -1");
    runs.run("48 SHELF 8", ALL_KINDS + "keep(7, 1, 0) weight(7) = 30 weight(8) ! -1");
    runs.runEach("48 SHELF far off", FAR_OFF, ALL_KINDS + "keep(0, 1, 0) weight(#) ! -1");
    runs.run("48 nothing is held", ALL_KINDS + "weight(0) ! -11");
    runs.run("48 a ROW", ALL_KINDS + "row(0, 0, 3) weight(0) ! -12 row(0, 1, 3) weight(0) ! -12 row(0, 2, 0) weight(0) ! -12");
  }

  private static void weightAsThen() {
    runs.run("48 HEADS as then", ALL_KINDS + "keep(0, 1, 0) found(1, 0) = 21 weight(0) = 30 keep(0, 1, 0) weight(0) = 31");
    runs.run("48 AIMS as then", ALL_KINDS + "aim(0, 5, 1) keep(0, 1, 0) unaim(0) weight(0) = 31 aim(0, 5, 1) aim(0, 5, 1) weight(0) = 31");
    runs.run("48 a STRAY's HEAD as then", ALL_KINDS + "keep(0, 1, 1) found(1, 0) = 21 weight(0) = 55");
    runs.run("48 those that FELL as then", TWO + "way(0, 1, 130) group(0, 100, 0) keep(0, 1, 0) aim(0, 0, 1) go(2) body(0, 4) = 92 weight(0) = 110 keep(0, 1, 0) weight(0) = 103");
  }

  private static void toss() {
    runs.run("49 of a GROUP", ALL_KINDS + "keep(0, 1, 0) toss(0) = 0 group(0, 1, 0) = 6 keep(0, 1, 6) toss(0) = 6");
    runs.run("49 of a STRAY", ALL_KINDS + "keep(0, 1, 1) toss(0) = 1");
    runs.run("49 of a BUS", ALL_KINDS + "keep(0, 1, 2) toss(0) = 2");
    runs.run("49 of a TRAIN", ALL_KINDS + "keep(0, 1, 3) toss(0) = 103");
    runs.run("49 of TRAIN 0 and TRAIN 39", TWO + "comes(3, 0) * 40 keep(0, 1, 0) toss(0) = 100 keep(0, 1, 39) toss(0) = 139");
    runs.run("49 a POST has none", ALL_KINDS + "keep(0, 1, 4) toss(0) ! -15");
    runs.run("49 a LITTER has none", ALL_KINDS + "keep(0, 1, 5) toss(0) ! -15");
    runs.run("49 a GROUP on a WAY has none", ALL_KINDS + "aim(0, 0, 1) go(1) keep(0, 1, 0) toss(0) ! -15 go(5) keep(0, 1, 0) toss(0) = 0");
    runs.run("49 a STRAY that was FOUND has none", ALL_KINDS + "found(1, 0) keep(0, 1, 1) toss(0) ! -15");
    runs.run("49 without a CELL as then", ALL_KINDS + "aim(0, 0, 1) go(1) keep(0, 1, 0) go(9) body(0, 1) = 1 toss(0) ! -15");
    runs.run("49 with a CELL as then", ALL_KINDS + "keep(0, 1, 0) aim(0, 1, 1) go(2) body(0, 1) = -4 toss(0) = 0 keep(1, 1, 1) found(1, 0) = 21 toss(1) = 1");
    runs.run("49 a GROUP without HEADS", "cell(0, 0, 0) comes(2, 0) group(0, 1, 0) go(51) body(1, 4) = 0 keep(0, 1, 1) toss(0) = 1");
    runs.run("49 more than once", ALL_KINDS + "keep(0, 1, 3) toss(0) = 103 toss(0) = 103 weight(0) = 820");
  }

  private static void tossRefusals() {
    runs.run("49 SHELF -1", ALL_KINDS + "keep(0, 1, 0) toss(-1) ! -1");
    runs.run("49 SHELF 8", ALL_KINDS + "keep(7, 1, 2) toss(7) = 2 toss(8) ! -1");
    runs.runEach("49 SHELF far off", FAR_OFF, ALL_KINDS + "toss(#) ! -1");
    runs.run("49 nothing is held", ALL_KINDS + "toss(0) ! -11");
    runs.run("49 a ROW", ALL_KINDS + "row(0, 0, 3) toss(0) ! -12 row(0, 1, 0) toss(0) ! -12 row(0, 2, 3) toss(0) ! -12");
  }
}
