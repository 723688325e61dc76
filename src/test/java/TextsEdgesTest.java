/** Edges of TEXTS and of promises 16 to 21, a run for a sentence. */
public final class TextsEdgesTest {
  private static final Runs runs = new Runs("TextsEdgesTest");
  private static final String TWO = "cell(0, 0, 0) cell(0, 0, 0)";
  private static final String ONE_WAY = TWO + " way(0, 1, 105)";
  private static final String ALL_KINDS =
      ONE_WAY + " group(0, 9, 0) stray(0, 1, 20, -1) comes(2, 0) comes(3, 1) post(0) comes(5, 1)";
  private static final String ALL_TEXTS = "write(7, \"h=0\") text(7) * 20";
  private static final int[] FAR_OFF = {Integer.MIN_VALUE, Integer.MAX_VALUE};
  private static final int[] NO_GROUPS = {1, 2, 3, 4, 5};
  private static final String FIELDS = "mhdpqnslutwx";

  public static void main(String[] args) {
    sums();
    numbers();
    tests();
    ands();
    brackets();
    strangers();
    meanings();
    faults();
    texts();
    forces();
    purposes();
    times();
    groupFields();
    wayFields();
    holdings();
    rites();
    riteRefusals();
    runs.end();
  }

  private static void fault(String sentence, String text, int due) {
    runs.run(sentence + ": " + text, "write(0, \"" + text + "\") fault(0) = " + due + " text(0) " + (due == -4 ? "= 0" : "! " + (-100 - due)));
  }

  private static void sums() {
    for (int i = 0; i < FIELDS.length(); i++) fault("a FIELD", FIELDS.charAt(i) + "<1", -4);
    for (int i = 0; i < FIELDS.length(); i++) fault("a FIELD behind", "1=" + FIELDS.charAt(i), -4);
    for (char c = 'a'; c <= 'z'; c++) {
      if (FIELDS.indexOf(c) < 0) fault("no FIELD", c + "<1", 0);
    }
    for (char c = 'A'; c <= 'Z'; c++) fault("no FIELD", "1<" + c, 2);
    fault("any of + ATOM, - ATOM", "m+1-2+h-d<q-1+x", -4);
    fault("a SUM of one ATOM", "m<h", -4);
    fault("no sign ahead", "-1<h", 0);
    fault("no sign ahead", "+1<h", 0);
    fault("no sign ahead behind", "h<-1", 2);
    fault("two signs", "h+-1<2", 2);
    fault("an ATOM behind the sign", "h+<2", 2);
    fault("a SUM is not in brackets", "h<(1)", 2);
    fault("a SUM is not in brackets", "(h+1)<2", 4);
    fault("no other signs", "h*2<1", 1);
  }

  private static void numbers() {
    fault("1 digit", "h<1", -4);
    fault("0 is a NUMBER", "0=0", -4);
    fault("4 digits", "9999>1000", -4);
    fault("5 digits", "h<10000", 6);
    fault("5 digits ahead", "12345<h", 4);
    fault("0 ahead of others", "h<01", 3);
    fault("0 ahead of 0", "00<h", 1);
    fault("0 behind others", "h<1000", -4);
    fault("two ATOMS without a sign", "1h<1", 1);
    fault("two ATOMS without a sign", "h1<1", 1);
    fault("two FIELDS", "hm<1", 1);
    for (char c = '0'; c <= '9'; c++) fault("a digit", c + "<" + c, -4);
    fault("the sign behind 9", "h<:", 2);
    fault("the sign ahead of 0", "h</", 2);
  }

  private static void tests() {
    fault("SUM < SUM", "h<1", -4);
    fault("SUM > SUM", "h>1", -4);
    fault("SUM = SUM", "h=1", -4);
    fault("one of < > =", "h<=1", 2);
    fault("one of < > =", "h==1", 2);
    fault("one of < > =, once", "h<1<2", 3);
    fault("not without it", "h", 1);
    fault("not without it", "h&m", 1);
    fault("! TEST", "!h<1", -4);
    fault("! ! TEST", "!!!h<1", -4);
    fault("! ahead of brackets", "!(h<1)", -4);
    fault("! in brackets", "(!h<1)", -4);
    fault("! not in a SUM", "h<!1", 2);
    fault("! not behind a TEST", "h<1!", 3);
    fault("! alone", "!", 1);
  }

  private static void ands() {
    fault("TEST & AND", "h<1&m<1&d<1", -4);
    fault("AND | OR", "h<1|m<1|d<1", -4);
    fault("both", "h<1|m<1&d<1|x<1", -4);
    fault("no & ahead", "&h<1", 0);
    fault("no | ahead", "|h<1", 0);
    fault("& twice", "h<1&&m<1", 4);
    fault("| twice", "h<1||m<1", 4);
    fault("| behind &", "h<1&|m<1", 4);
    fault("two TESTS", "h<1m<1", 3);
  }

  private static void brackets() {
    fault("( OR )", "(h<1|m<1)", -4);
    fault("( OR ) & TEST", "(h<1|m<1)&d<1", -4);
    fault("empty", "()", 1);
    fault("not closed", "(h<1", 4);
    fault("closed too often", "(h<1))", 5);
    fault("closed without one", "h<1)", 3);
    fault("closed ahead of a TEST", "(h)", 2);
    fault("not compared", "(h<1)<2", 5);
    fault("( behind )", "(h<1)(m<1)", 5);
    fault("( behind a TEST", "h<1(m<1)", 3);
    fault("8 deep", "((((((((h<1))))))))", -4);
    fault("9 deep", "(((((((((h<1)))))))))", 8);
    fault("9 deep with ! between", "(!(!(!(!(!(!(!(!(h<1)))))))))", 16);
    fault("8 deep twice", "((((((((h<1))))))))&((((((((h<1))))))))", -4);
    fault("9 deep the second time", "((((((((h<1))))))))|(((((((((h<1)))))))))", 28);
    fault("9 deep behind a part", "(((((((h<1&(m<1&(d<1)))))))))", 16);
    fault("8 deep behind a part", "((((((h<1&(m<1&(d<1))))))))", -4);
    fault("8 deep, one never closed", "((((((((h<1)))))))", 18);
  }

  private static void strangers() {
    fault("no blanks ahead", " h<1", 0);
    fault("no blanks between", "h <1", 1);
    fault("no blanks behind", "h<1 ", 3);
    int[] bytes = {0, -1, -128, 127, 1, 10, 13, 32, -4};
    for (int b : bytes) {
      runs.run("no TEXT goes on with byte " + b, "bytes(0, 104, " + b + ") fault(0) = 1 text(0) ! -101");
      runs.run("no TEXT begins with byte " + b, "bytes(0, " + b + ") fault(0) = 0 text(0) ! -100");
      runs.run("no TEXT goes on behind its end with byte " + b, "bytes(0, 104, 60, 49, " + b + ") fault(0) = 3");
    }
    fault("too early: the size", "", 0);
    fault("too early: the size", "h<", 2);
    fault("too early: the size", "h+", 2);
    fault("too early: the size", "h<1&", 4);
    fault("too early: the size", "h<1|", 4);
    runs.run("80 bytes", "row(0, 0, 80) put(0, 0, 104) fault(0) = 1 put(0, 1, 61) fault(0) = 2");
    String nots = "!".repeat(77);
    fault("80 bytes are a TEXT", nots + "h<1", -4);
    fault("80 bytes that end too early", nots + "h<9".substring(0, 2) + "!", 79);
    fault("80 bytes that end too early", nots + "!!!", 80);
    fault("80 bytes in a SUM", "h" + "+1".repeat(38) + "<99", -4);
  }

  private static void holds(String sentence, String text, int due) {
    runs.run(sentence + ": " + text, "tell(\"" + text + "\") = 0 holds(0, -1, -1) = " + due);
  }

  private static void meanings() {
    holds("<", "1<2", 1);
    holds("< not of the same", "2<2", 0);
    holds(">", "2>1", 1);
    holds("> not of the same", "2>2", 0);
    holds("=", "2=2", 1);
    holds("! of <", "!1<2", 0);
    holds("! of >", "!2>1", 0);
    holds("< and =", "1<2&1=1", 1);
    holds("> and =", "2>1&2=2", 1);
    holds("< or >", "1<2|1>2", 1);
    holds("< and >", "1<2&2>1", 1);
    holds("= of less", "1=2", 0);
    holds("= of more", "2=1", 0);
    holds("from the left", "9-5-3=1", 1);
    holds("from the left", "9-5+3=7", 1);
    holds("from the left behind", "7=9-5+3", 1);
    holds("below 0", "1-2<0", 1);
    holds("below 0", "0>3-9999", 1);
    holds("both SUMS", "1+2=4-1", 1);
    holds("!", "!1=2", 1);
    holds("!", "!1=1", 0);
    holds("! !", "!!1=1", 1);
    holds("! of one TEST alone", "!1=2&1=2", 0);
    holds("! of one TEST alone", "!1=1|1=1", 1);
    holds("! of ( OR )", "!(1=1&1=2)", 1);
    holds("&", "1=1&1=1", 1);
    holds("&", "1=1&1=2", 0);
    holds("&", "1=2&1=1", 0);
    holds("|", "1=1|1=2", 1);
    holds("|", "1=2|1=1", 1);
    holds("|", "1=2|1=2", 0);
    holds("| of ANDS", "1=1|1=1&1=2", 1);
    holds("| of ANDS", "1=2&1=1|1=1", 1);
    holds("( OR )", "(1=1|1=1)&1=2", 0);
    holds("( OR )", "1=2&(1=1|1=1)", 0);
    holds("8 deep", "!(!(!(!(!(!(!(!(1=1))))))))", 1);
    holds("4 digits", "9999-1=9998", 1);
    holds("80 bytes", "1" + "+1".repeat(38) + "=39", 1);
  }

  private static void faults() {
    runs.run("16 SHELF -1", "fault(-1) ! -1");
    runs.run("16 SHELF 8", "write(7, \"h<1\") fault(7) = -4 fault(8) ! -1");
    runs.runEach("16 SHELF far off", FAR_OFF, "fault(#) ! -1");
    runs.run("16 nothing is held", "fault(0) ! -11");
    runs.run("16 nothing is held any more", "write(0, \"h<1\") keep(0, 0, 0) fault(0) ! -11");
    runs.run("16 a BODY", ALL_KINDS, "keep(0, 1, 0) fault(0) ! -12");
    runs.run("16 a ROW of shorts", "shorts(0, 104, 60, 49) fault(0) ! -12");
    runs.run("16 a ROW of ints", "ints(0, 104, 60, 49) fault(0) ! -12");
    runs.run("16 it is a TEXT, but none is told", "write(0, \"h<1\") fault(0) = -4 count(5) = 0 holds(0, -1, -1) ! -1");
    runs.run("16 no room for TEXTS does not matter", ALL_TEXTS, "write(0, \"h<1\") fault(0) = -4 write(0, \"h\") fault(0) = 1");
  }

  private static void texts() {
    runs.run("17 TEXTS are numbered as they are told", "tell(\"h<1\") = 0 tell(\"h\") ! -101 tell(\"h<1\") = 1 count(5) = 2");
    runs.run("17 SHELF -1", "text(-1) ! -1");
    runs.run("17 SHELF 8", "write(7, \"h<1\") text(8) ! -1 text(7) = 0");
    runs.runEach("17 SHELF far off", FAR_OFF, "text(#) ! -1");
    runs.run("17 the 20th is the last", "write(7, \"h=0\") text(7) * 19 write(6, \"h=1\") text(6) = 19 count(5) = 20 holds(19, -1, -1) = 0 holds(18, -1, -1) = 1");
    runs.run("17 no room for a 21st", ALL_TEXTS, "text(7) ! -2 count(5) = 20");
    runs.run("17 no SHELF ahead of no room", ALL_TEXTS, "text(8) ! -1 text(-1) ! -1");
    runs.run("17 no room ahead of nothing held", ALL_TEXTS, "text(0) ! -2");
    runs.run("17 no room ahead of another kind", ALL_TEXTS, "row(0, 1, 3) text(0) ! -2 row(0, 2, 3) text(0) ! -2 cell(0, 0, 0) comes(2, 0) keep(0, 1, 0) text(0) ! -2");
    runs.run("17 no room ahead of a FAULT", ALL_TEXTS, "write(0, \"h\") text(0) ! -2");
    runs.run("17 nothing is held", "text(0) ! -11");
    runs.run("17 a BODY", ALL_KINDS, "keep(0, 1, 0) text(0) ! -12 keep(0, 1, 5) text(0) ! -12");
    runs.run("17 a ROW of shorts", "shorts(0, 104, 60, 49) text(0) ! -12");
    runs.run("17 a ROW of ints", "ints(0, 104, 60, 49) text(0) ! -12");
    runs.run("17 -100 less a FAULT", "row(0, 0, 0) text(0) ! -100 write(0, \"h<1&\") text(0) ! -104 row(0, 0, 80) put(0, 0, 33) text(0) ! -101");
    runs.run("17 the greatest FAULT", "write(0, \"" + "!".repeat(80) + "\") text(0) ! -180");
    runs.run("17 a TEXT stays when its ROW changes", "write(0, \"h=0\") text(0) = 0 put(0, 2, 49) holds(0, -1, -1) = 1 row(0, 2, 1) holds(0, -1, -1) = 1 text(0) ! -12");
    runs.run("17 one ROW can be told more than once", "write(0, \"h=0\") text(0) = 0 text(0) = 1 put(0, 2, 49) text(0) = 2 holds(1, -1, -1) = 1 holds(2, -1, -1) = 0");
    runs.run("17 what is FAULTY does not change the one told ahead", "tell(\"h=0\") = 0 tell(\"h=1|\") ! -104 holds(0, -1, -1) = 1");
  }

  private static void forces() {
    String two = "write(7, \"h=0\") text(7) * 2";
    runs.run("18 PURPOSE 0 is the first", two, "force(0, 1) = -4 force(0, 0) = 1");
    runs.run("18 PURPOSE 15 is the last", two, "force(15, 1) = -4 force(15, 0) = 1");
    runs.run("18 PURPOSE -1", two, "force(-1, 0) ! -1");
    runs.run("18 PURPOSE 16", two, "force(16, 0) ! -1 force(16, -1) ! -1");
    runs.runEach("18 PURPOSE far off", FAR_OFF, two, "force(#, 0) ! -1");
    runs.run("18 TEXT -1 is none", two, "force(3, 0) = -4 force(3, -1) = 0 force(3, -1) = -4");
    runs.run("18 TEXT 0 is the first", two, "force(3, 0) = -4 force(3, 0) = 0");
    runs.run("18 TEXT -2", two, "force(3, 1) = -4 force(3, -2) ! -1 force(3, 1) = 1");
    runs.run("18 TEXT behind the last", two, "force(3, 1) = -4 force(3, 2) ! -1 force(3, 1) = 1");
    runs.runEach("18 TEXT far off", FAR_OFF, two, "force(3, #) ! -1");
    runs.run("18 TEXT 19", ALL_TEXTS, "force(3, 19) = -4 force(3, 20) ! -1 force(3, 0) = 19");
    runs.run("18 one TEXT for more than one PURPOSE", two, "force(0, 1) = -4 force(8, 1) = -4 force(0, -1) = 1 force(8, -1) = 1");
    runs.run("18 another PURPOSE's stays", two, "force(0, 1) force(1, 0) = -4 force(0, -1) = 1 force(1, -1) = 0");
  }

  private static void purposes() {
    String group = ONE_WAY + " group(0, 9, 2) tell(\"0=0\") = 0 tell(\"1=0\") = 1";
    for (int school = 0; school < 4; school++) {
      runs.run("PURPOSE " + school + " is STANDING by SCHOOL " + school, group, "force(" + school + ", 0) schools(0, 0) = " + (1 << school) + " schools(0, 1) = 0");
      runs.run("PURPOSE " + (4 + school) + " is THROWING by SCHOOL " + school, group,
          "force(" + (4 + school) + ", 0) schools(0, 1) = " + (1 << school) + " schools(0, 0) = 0");
    }
    for (int k = 0; k < 8; k++) {
      String posts = k == 0 ? "" : "post(0) * " + k;
      String behind = k == 7 ? "" : "post(0) * " + (7 - k);
      runs.run("PURPOSE " + (8 + k) + " is the POST that came as number " + k, group, "way(0, 1, 101)", posts, "post(1)", behind,
          "force(" + (8 + k) + ", 0) go(1) about(1, 8) = 1 about(0, 8) = 0 schools(0, 0) = 0 schools(0, 1) = 0");
    }
    runs.run("k counts POSTS, not BODIES", group, "way(0, 1, 101) post(1) comes(2, 0) post(0) force(9, 0) go(1) about(0, 8) = 1 about(1, 8) = 0");
    runs.run("from the MINUTE on in which it is told so", group, "post(0) go(1) force(8, 0) about(0, 8) = 0 go(1) about(0, 8) = 1");
    runs.run("in place of the one ahead", group, "post(0) force(8, 0) force(8, 1) = 0 go(1) about(0, 8) = 0");
    runs.run("without one a POST doesn't shut", group, "post(0) force(8, 0) go(1) about(0, 8) = 1 force(8, -1) = 0 go(1) about(0, 8) = 0");
    runs.run("one of two POSTS is enough", group, "post(0) post(0) force(8, 1) force(9, 0) go(1) about(0, 8) = 1");
    runs.run("a PURPOSE without its POST", group, "force(15, 0) = -4 go(1) about(0, 8) = 0 post(0) * 7 go(1) about(0, 8) = 0 post(0) go(1) about(0, 8) = 1");
  }

  private static void field(String sentence, String plain, String field, int due, int way, int group) {
    runs.run("FIELD " + field + ": " + sentence, plain, "tell(\"" + field + "=" + due + "\") = 0 holds(0, " + way + ", " + group + ") = 1",
        "tell(\"" + field + "+1=" + due + "+1&!" + field + "=" + (due + 1) + "\") = 1 holds(1, " + way + ", " + group + ") = 1");
  }

  private static void times() {
    field("0 at first", "", "m", 0, -1, -1);
    field("the last of a day", "pass(1439)", "m", 1439, -1, -1);
    field("modulo 1440", "pass(1440)", "m", 0, -1, -1);
    field("on the second day", "pass(1441)", "m", 1, -1, -1);
    field("at the end", "pass(4320)", "m", 0, -1, -1);
    field("0 at first", "pass(59)", "h", 0, -1, -1);
    field("1 from MINUTE 60 on", "pass(60)", "h", 1, -1, -1);
    field("23 is the last", "pass(1439)", "h", 23, -1, -1);
    field("modulo 24", "pass(1440)", "h", 0, -1, -1);
    field("at the end", "pass(4320)", "h", 0, -1, -1);
    field("0 at first", "pass(1439)", "d", 0, -1, -1);
    field("1 from MINUTE 1440 on", "pass(1440)", "d", 1, -1, -1);
    field("2 to the last MINUTE", "pass(4319)", "d", 2, -1, -1);
    field("3 at the end", "pass(4320)", "d", 3, -1, -1);
    field("HEAT of the HOUR", "heat(0, 7) heat(1, 9) pass(59)", "x", 7, -1, -1);
    field("HEAT of the next HOUR", "heat(0, 7) heat(1, 9) pass(60)", "x", 9, -1, -1);
    field("HEAT of HOUR 0 again", "heat(0, 7) heat(23, 9) pass(1440)", "x", 7, -1, -1);
    field("HEAT as it is now", "heat(0, 60)", "x", 60, -1, -1);
  }

  private static void groupFields() {
    String group = ONE_WAY + " group(0, 100, 13) ";
    field("HEADS", group, "n", 100, -1, 0);
    field("less those that FAINTED", group + "go(51)", "n", 97, -1, 0);
    field("of no GROUP", group, "n", 0, -1, -1);
    field("SCHOOL", group, "s", 3, -1, 0);
    field("of no GROUP", group, "s", 0, -1, -1);
    field("without an AIM", group + "go(9)", "l", 0, -1, 0);
    field("its AIM's MINUTE is still to come", group + "aim(0, 10, 0) go(9)", "l", 0, -1, 0);
    field("in its AIM's MINUTE", group + "aim(0, 10, 0) go(10)", "l", 0, -1, 0);
    field("in its CELL, too", group + "aim(0, 10, 0) go(11)", "l", 1, -1, 0);
    field("on a WAY", group + "aim(0, 10, 1) go(13)", "l", 3, -1, 0);
    field("of the AIM that holds", group + "aim(0, 2, 0) aim(0, 6, 0) aim(0, 9, 0) go(8)", "l", 2, -1, 0);
    field("without AIMS any more", group + "aim(0, 2, 0) go(8) unaim(0)", "l", 0, -1, 0);
    field("of no GROUP", group + "aim(0, 2, 0) go(8)", "l", 0, -1, -1);
    field("SUN", group + "go(7)", "u", 210, -1, 0);
    field("of no GROUP", group + "go(7)", "u", 0, -1, -1);
    String hill = "cell(1, 0, 99999) group(0, 5, 0) pass(720) ";
    field("none ahead of HOUR 12", hill, "t", 0, -1, 0);
    field("MINUTES that it has STOOD", hill + "go(61)", "t", 61, -1, 0);
    field("of no GROUP", hill + "go(61)", "t", 0, -1, -1);
    String wall = "cell(2, 0, 99999) group(0, 5, 0) ";
    field("how often it has THROWN", wall + "go(61)", "w", 2, -1, 0);
    field("of no GROUP", wall + "go(61)", "w", 0, -1, -1);
    field("in all, not on this day", wall + "pass(1441)", "w", 8, -1, 0);
    field("in all, not on this day", hill + "pass(1500)", "t", 420, -1, 0);
    field("of another GROUP", wall + "go(61) group(0, 5, 0)", "w", 0, -1, 1);
  }

  private static void wayFields() {
    String way = TWO + " way(0, 1, 130) way(1, 0, 130) group(0, 100, 0) aim(0, 0, 1) ";
    field("0 at first", way, "p", 0, 0, -1);
    field("not yet in the MINUTE of the STEP", way + "go(1)", "p", 0, 0, -1);
    field("PRESS", way + "go(2)", "p", 100, 0, -1);
    field("PRESS of the MINUTE that went by, not of HEADS now", way + "go(3)", "p", 92, 0, -1);
    field("of another WAY", way + "go(2)", "p", 0, 1, -1);
    field("of no WAY", way + "go(2)", "p", 0, -1, 0);
    field("0 at first", way, "q", 0, 0, -1);
    field("PUSH", way + "go(2)", "q", 40, 0, -1);
    field("PUSH of the MINUTE that went by", way + "go(3)", "q", 52, 0, -1);
    field("of another WAY", way + "go(2)", "q", 0, 1, -1);
    field("of no WAY", way + "go(2)", "q", 0, -1, 0);
    runs.run("of a WAY and a GROUP", way, "go(2) tell(\"p=100&q=40&n=92&u=60\") = 0 holds(0, 0, 0) = 1 holds(0, 1, 0) = 0 holds(0, 0, -1) = 0 holds(0, -1, 0) = 0");
    runs.run("a POST's TEXT has PRESS and PUSH of its MINUTE", way, "post(0) tell(\"p=100&q=40\") = 0 force(8, 0) go(1) about(0, 8) = 0 go(1) about(0, 8) = 1 go(1) about(0, 8) = 0");
    runs.run("a POST's TEXT has no GROUP", way, "post(0) tell(\"n=0&s=0&l=0&u=0&t=0&w=0\") = 0 force(8, 0) go(1) about(0, 8) = 1");
    runs.run("a POST's TEXT has NOW of its MINUTE", way, "post(1) tell(\"m=59&h=0\") = 0 force(8, 0) pass(59) about(1, 8) = 0 go(1) about(1, 8) = 1 go(1) about(1, 8) = 0");
  }

  private static void holdings() {
    String text = ALL_KINDS + " tell(\"h=0\") = 0 ";
    runs.run("19 it holds", text, "holds(0, -1, -1) = 1 holds(0, 0, 0) = 1");
    runs.run("19 it doesn't", text, "go(60) holds(0, -1, -1) = 0 holds(0, 0, 0) = 0");
    runs.run("19 TEXT -1", text, "holds(-1, -1, -1) ! -1");
    runs.run("19 TEXT behind the last", text, "holds(1, -1, -1) ! -1");
    runs.run("19 TEXT 19", ALL_TEXTS, "holds(19, -1, -1) = 1 holds(20, -1, -1) ! -1");
    runs.runEach("19 TEXT far off", FAR_OFF, text, "holds(#, -1, -1) ! -1");
    runs.run("19 WAY -2", text, "holds(0, -2, -1) ! -1");
    runs.run("19 WAY behind the last", text, "holds(0, 1, -1) ! -1");
    runs.runEach("19 WAY far off", FAR_OFF, text, "holds(0, #, -1) ! -1");
    runs.run("19 GROUP -2", text, "holds(0, -1, -2) ! -1");
    runs.run("19 GROUP behind the last BODY", text, "holds(0, -1, 6) ! -1");
    runs.runEach("19 GROUP far off", FAR_OFF, text, "holds(0, -1, #) ! -1");
    runs.runEach("19 no GROUP, but another BODY", NO_GROUPS, text, "holds(0, -1, #) ! -1");
  }

  private static void rites() {
    String hill = "cell(1, 0, 99999) group(0, 5, 2) pass(720) ";
    runs.run("20 STANDING without a TEXT: 59 are too few", hill, "go(59) body(0, 9) = 59 stands(0, 0, 0) = 0 schools(0, 0) = 0");
    runs.run("20 STANDING without a TEXT: 60 are enough", hill, "go(60) body(0, 9) = 60 stands(0, 0, 0) = 1 stands(0, 0, 3) = 1 schools(0, 0) = 15 schools(0, 1) = 0");
    runs.run("20 STANDING in all, not in one day", "cell(1, 0, 99999) cell(0, 0, 99999) way(0, 1, 101) group(1, 5, 0) aim(0, 1050, 0) aim(0, 1085, 1) aim(0, 2000, 0)",
        "pass(1440) body(0, 9) = 29 stands(0, 0, 0) = 0 pass(720) body(0, 9) = 29 go(30) body(0, 9) = 59 schools(0, 0) = 0 go(1) body(0, 9) = 60 schools(0, 0) = 15");
    String wall = "cell(2, 0, 99999) group(0, 5, 2) ";
    runs.run("20 THROWING without a TEXT: 2 are too few", wall, "go(120) body(0, 10) = 2 stands(0, 1, 0) = 0 schools(0, 1) = 0");
    runs.run("20 THROWING without a TEXT: 3 are enough", wall, "go(120) go(1) body(0, 10) = 3 stands(0, 1, 0) = 1 schools(0, 1) = 15 schools(0, 0) = 0");
    runs.run("20 THROWING in all, not on one day", "cell(2, 0, 99999) cell(0, 0, 99999) way(1, 0, 101) group(1, 5, 0) aim(0, 1300, 0)",
        "pass(1440) body(0, 10) = 2 schools(0, 1) = 0 go(1) body(0, 10) = 3 schools(0, 1) = 15 pass(1439) body(0, 10) = 9 schools(0, 1) = 15 go(1) schools(0, 1) = 15");
    runs.run("20 of a GROUP that is not BODY 0", "cell(1, 0, 99999) cell(2, 0, 99999) comes(2, 0) comes(5, 0) group(0, 5, 2) group(1, 5, 2) pass(780)",
        "stands(2, 0, 1) = 1 stands(2, 1, 1) = 0 stands(3, 0, 1) = 0 stands(3, 1, 1) = 1 schools(2, 0) = 15 schools(3, 0) = 0 schools(2, 1) = 0 schools(3, 1) = 15 stands(0, 0, 1) ! -1 schools(1, 0) ! -1");
    runs.run("20 of NOW", wall + "heat(1, 7) aim(0, 60, 0) go(61) tell(\"m=61&h=1&d=0&x=7&l=1\") = 0 force(4, 0) force(0, 0) schools(0, 1) = 1 schools(0, 0) = 1 go(1) schools(0, 1) = 0 schools(0, 0) = 0");
    runs.run("20 by a TEXT alone, where one is IN FORCE", wall, "go(120) go(1) tell(\"w>3\") = 0 force(5, 0) stands(0, 1, 0) = 1 stands(0, 1, 1) = 0 schools(0, 1) = 13");
    runs.run("20 and without it again when it is no more", wall, "go(120) go(1) tell(\"w>3\") = 0 force(5, 0) force(5, -1) = 0 stands(0, 1, 1) = 1 schools(0, 1) = 15");
    runs.run("20 s is the GROUP's SCHOOL, not the one that is asked", wall, "tell(\"s=2\") = 0 force(0, 0) force(1, 0) force(2, 0) force(3, 0) schools(0, 0) = 15");
    runs.run("20 p and q of no WAY", TWO, "way(0, 1, 130) group(0, 100, 0) aim(0, 0, 1) tell(\"p+q=0\") = 0 force(0, 0) go(3) about(0, 5) = 92 stands(0, 0, 0) = 1");
    runs.run("20 a GROUP without HEADS, too", "cell(1, 0, 0) group(0, 1, 0) heat(11, 60) heat(12, 60) pass(60) body(0, 4) = 0 tell(\"n=0\") = 0 force(0, 0) schools(0, 0) = 1");
  }

  private static void riteRefusals() {
    runs.run("20 GROUP -1", ALL_KINDS, "stands(-1, 0, 0) ! -1");
    runs.run("20 GROUP behind the last BODY", ALL_KINDS, "stands(6, 0, 0) ! -1");
    runs.runEach("20 GROUP far off", FAR_OFF, ALL_KINDS, "stands(#, 0, 0) ! -1");
    runs.runEach("20 no GROUP, but another BODY", NO_GROUPS, ALL_KINDS, "stands(#, 0, 0) ! -1");
    runs.run("20 RITE -1", ALL_KINDS, "stands(0, -1, 0) ! -1");
    runs.run("20 RITE 2", ALL_KINDS, "stands(0, 1, 0) = 0 stands(0, 2, 0) ! -1");
    runs.runEach("20 RITE far off", FAR_OFF, ALL_KINDS, "stands(0, #, 0) ! -1");
    runs.run("20 SCHOOL -1", ALL_KINDS, "stands(0, 0, -1) ! -1");
    runs.run("20 SCHOOL 4", ALL_KINDS, "stands(0, 0, 3) = 0 stands(0, 0, 4) ! -1 stands(0, 1, 4) ! -1");
    runs.runEach("20 SCHOOL far off", FAR_OFF, ALL_KINDS, "stands(0, 0, #) ! -1");
    runs.run("21 GROUP -1", ALL_KINDS, "schools(-1, 0) ! -1");
    runs.run("21 GROUP behind the last BODY", ALL_KINDS, "schools(6, 0) ! -1");
    runs.runEach("21 GROUP far off", FAR_OFF, ALL_KINDS, "schools(#, 0) ! -1");
    runs.runEach("21 no GROUP, but another BODY", NO_GROUPS, ALL_KINDS, "schools(#, 0) ! -1");
    runs.run("21 RITE -1", ALL_KINDS, "schools(0, -1) ! -1");
    runs.run("21 RITE 2", ALL_KINDS, "schools(0, 1) = 0 schools(0, 2) ! -1");
    runs.runEach("21 RITE far off", FAR_OFF, ALL_KINDS, "schools(0, #) ! -1");
    runs.run("21 none", ALL_KINDS, "schools(0, 0) = 0 schools(0, 1) = 0");
    runs.run("21 SCHOOL k is bit k", ALL_KINDS, "tell(\"0=0\") = 0 force(1, 0) force(3, 0) schools(0, 0) = 10 force(4, 0) force(7, 0) schools(0, 1) = 9");
  }
}
