/** Promises 16 to 21: TEXTS, what is IN FORCE, RITES by SCHOOLS. */
public final class TextsTest {
  private static final Check check = new Check("TextsTest");
  private static final String SIGNS = "mhdpqnslutwx0123456789+-<>=!()|&";

  public static void main(String[] args) {
    faults();
    faultsOfAny();
    shelves();
    texts();
    forces();
    fields();
    meanings();
    meaningsOfAny();
    rites();
    check.end();
  }

  private static int faultOf(String text) {
    TentPlain x = new TentPlain();
    Check.write(x, 0, text);
    return x.fault(0);
  }

  private static void faults() {
    String[] good = {"h<1", "0=0", "9999>x", "m+1-2<h", "!h=1", "!!h=1", "(h=1)", "((((((((h=1))))))))", "h=1|h=2&h=3",
        "!(h=1|d>2)&(p<q)", "(h=1)&((((((((h=1))))))))", "m+h+d+p+q+n+s+l+u+t+w+x=0"};
    for (String text : good) check.due(text, faultOf(text), -4);
    String[] bad = {"", "h", "h<", "h<1&", "h<1|", "!", "(", "(h<1", "h+", "h<1+"};
    for (String text : bad) check.due(text + " ends too early", faultOf(text), text.length());
    check.due("01", faultOf("h<01"), 3);
    check.due("00", faultOf("00<1"), 1);
    check.due("five digits", faultOf("h<12345"), 6);
    check.due("five digits ahead", faultOf("10000<h"), 4);
    check.due("blank", faultOf("h <1"), 1);
    check.due("no field", faultOf("a<1"), 0);
    check.due("two fields", faultOf("hm<1"), 1);
    check.due("digit behind a field", faultOf("h1<1"), 1);
    check.due("field behind a digit", faultOf("1h<1"), 1);
    check.due("sum in brackets", faultOf("(h+1)<2"), 4);
    check.due("a bracket in a sum", faultOf("h<(1)"), 2);
    check.due("no number ahead", faultOf("-1<h"), 0);
    check.due("two signs", faultOf("h<=1"), 2);
    check.due("compared twice", faultOf("h<1<2"), 3);
    check.due("not in a sum", faultOf("h<!1"), 2);
    check.due("closed too often", faultOf("h<1)"), 3);
    check.due("closed too early", faultOf("(h)"), 2);
    check.due("empty brackets", faultOf("()"), 1);
    check.due("nine deep", faultOf("(((((((((h=1)))))))))"), 8);
    check.due("nine deep behind", faultOf("h=1&(((((((((h=1)))))))))"), 12);
    check.due("behind brackets", faultOf("(h=1)h"), 5);
    check.due("not behind brackets", faultOf("(h=1)!h=1"), 5);
    check.due("and twice", faultOf("h=1&&h=1"), 4);
    check.due("capital", faultOf("H=1"), 0);
    String long80 = "!!!!!!!!!!!!!!!!!!!!!!!!!!!!!!!!!!!!!!!!!!!!!!!!!!!!!!!!!!!!!!!!!!!!!!!!!!!!!h=1";
    check.due("80 signs", long80.length(), 80);
    check.due("80 signs", faultOf(long80), -4);
    check.due("80 times not", faultOf("!".repeat(80)), 80);
    TentPlain x = new TentPlain();
    for (int v : new int[] {-1, -128, 0, 127, 9}) {
      Check.write(x, 0, "h=1&");
      x.put(0, 3, v);
      check.due("byte " + v, x.fault(0), 3);
    }
  }

  /** Whether a prefix can go on to a TEXT, by states alone: an oracle that shares nothing with the class. */
  private static int faultByStates(String text) {
    int depth = 0;
    boolean left = true;
    int digits = 0;
    char state = 'T';
    for (int i = 0; i < text.length(); i++) {
      char c = text.charAt(i);
      boolean digit = c >= '0' && c <= '9';
      boolean atom = digit || "mhdpqnslutwx".indexOf(c) >= 0;
      if (state == 'T' && c == '!') continue;
      if (state == 'T' && c == '(' && depth < 8) {
        depth++;
      } else if ((state == 'T' || state == 'A') && atom) {
        if (state == 'T') left = true;
        digits = !digit || c == '0' ? 4 : 1;
        state = 'E';
      } else if (state == 'E' && digit && digits < 4) {
        digits++;
      } else if (state == 'E' && (c == '+' || c == '-')) {
        state = 'A';
      } else if (state == 'E' && left && (c == '<' || c == '>' || c == '=')) {
        left = false;
        state = 'A';
      } else if ((state == 'E' && !left || state == ')') && c == ')' && depth > 0) {
        depth--;
        state = ')';
      } else if ((state == 'E' && !left || state == ')') && (c == '&' || c == '|')) {
        state = 'T';
      } else {
        return i;
      }
    }
    return depth == 0 && (state == ')' || state == 'E' && !left) ? -4 : text.length();
  }

  private static String anyText(Dice dice, int depth) {
    StringBuilder text = new StringBuilder();
    int tests = dice.from(1, 3);
    for (int i = 0; i < tests; i++) {
      if (i > 0) text.append(dice.oneIn(2) ? '&' : '|');
      while (dice.oneIn(3)) text.append('!');
      if (depth > 0 && dice.oneIn(2)) text.append('(').append(anyText(dice, depth - 1)).append(')');
      else text.append(anySum(dice)).append("<>=".charAt(dice.below(3))).append(anySum(dice));
    }
    return text.toString();
  }

  private static String anySum(Dice dice) {
    StringBuilder sum = new StringBuilder();
    int atoms = dice.from(1, 3);
    for (int i = 0; i < atoms; i++) {
      if (i > 0) sum.append(dice.oneIn(2) ? '+' : '-');
      if (dice.oneIn(2)) sum.append("mhdpqnslutwx".charAt(dice.below(12)));
      else sum.append(dice.oneIn(2) ? dice.below(100) : dice.below(10000));
    }
    return sum.toString();
  }

  private static void faultsOfAny() {
    Dice dice = new Dice(1);
    for (int i = 0; i < 10000; i++) {
      String text = anyText(dice, dice.below(10));
      if (text.length() > 80) text = text.substring(0, 80);
      int changes = dice.below(3);
      for (int c = 0; c < changes && !text.isEmpty(); c++) {
        int at = dice.below(text.length());
        text = text.substring(0, at) + SIGNS.charAt(dice.below(SIGNS.length())) + text.substring(at + dice.below(2));
      }
      if (text.length() > 80) text = text.substring(0, 80);
      check.due("fault of " + text, faultOf(text), faultByStates(text));
    }
  }

  private static void shelves() {
    TentPlain x = new TentPlain();
    x.cell(0, 0, 0);
    x.group(0, 1, 0);
    check.due("no shelf", x.fault(8), -1);
    check.due("no shelf", x.text(-1), -1);
    check.due("nothing", x.fault(0), -11);
    check.due("nothing", x.text(0), -11);
    x.keep(0, 1, 0);
    check.due("a body", x.fault(0), -12);
    check.due("a body", x.text(0), -12);
    for (int sort = 1; sort < 3; sort++) {
      x.row(0, sort, 3);
      check.due("sort " + sort, x.fault(0), -12);
      check.due("sort " + sort, x.text(0), -12);
    }
    x.row(0, 0, 0);
    check.due("empty", x.fault(0), 0);
    check.due("empty", x.text(0), -100);
    Check.write(x, 0, "h<01");
    check.due("a fault", x.text(0), -103);
    check.due("no text", x.count(5), 0);
  }

  private static void texts() {
    TentPlain x = new TentPlain();
    for (int i = 0; i < 20; i++) check.due("text " + i, Check.tell(x, "m=" + i), i);
    check.due("no room", x.text(7), -2);
    check.due("no room ahead of nothing held", x.text(0), -2);
    check.due("no shelf ahead of no room", x.text(8), -1);
    check.due("no fault", x.fault(7), -4);
    for (int i = 0; i < 20; i++) check.due("holds " + i, x.holds(i, -1, -1), i == 0 ? 1 : 0);
    x.put(7, 0, 'z');
    x.go(19);
    check.due("the text is its own", x.holds(19, -1, -1), 1);
  }

  private static void forces() {
    TentPlain x = new TentPlain();
    Check.tell(x, "h=0");
    Check.tell(x, "h=1");
    check.due("purpose below", x.force(-1, 0), -1);
    check.due("purpose above", x.force(16, 0), -1);
    check.due("no text", x.force(0, 2), -1);
    check.due("text -2", x.force(0, -2), -1);
    for (int purpose = 0; purpose < 16; purpose++) {
      check.due("none", x.force(purpose, 1), -4);
      check.due("one", x.force(purpose, 0), 1);
      check.due("the other", x.force(purpose, -1), 0);
      check.due("none again", x.force(purpose, -1), -4);
    }
  }

  /** Asks for a field by taking the texts back with THE IMAGE, as there is room for twenty alone. */
  private static void field(TentPlain x, char field, int way, int group, int want) {
    x.image();
    int text = Check.tell(x, field + "=" + want);
    check.due("field " + field + " of " + way + ", " + group, x.holds(text, way, group), 1);
    text = Check.tell(x, field + "+1=" + (want + 1) + "&!" + field + "=" + (want + 1));
    check.due("field " + field + " of " + way + ", " + group, x.holds(text, way, group), 1);
    x.restore();
  }

  private static void fields() {
    fieldsOfTime(onSecondDay());
    fieldsOfGroups(onSecondDay());
    fieldsOfAims(onSecondDay());
  }

  private static TentPlain onSecondDay() {
    TentPlain x = new TentPlain();
    x.cell(1, 0, 0);
    x.cell(2, 0, 0);
    x.way(0, 1, 110);
    x.group(0, 70, 13);
    x.group(0, 9, 2);
    x.aim(0, 1500, 1);
    x.comes(2, 0);
    for (int hour = 0; hour < 24; hour++) x.heat(hour, 0);
    Check.go(x, 1440);
    x.heat(1, 55);
    x.go(62);
    return x;
  }

  private static void fieldsOfTime(TentPlain x) {
    field(x, 'm', -1, -1, 62);
    field(x, 'h', -1, -1, 1);
    field(x, 'd', -1, -1, 1);
    field(x, 'x', -1, -1, 55);
    field(x, 'p', 0, -1, 70);
    field(x, 'q', 0, -1, 10);
    field(x, 'p', -1, 0, 0);
    field(x, 'q', -1, 0, 0);
  }

  private static void fieldsOfGroups(TentPlain x) {
    field(x, 'n', -1, 0, 70);
    field(x, 'n', 0, -1, 0);
    field(x, 's', -1, 0, 3);
    field(x, 's', -1, 1, 2);
    field(x, 's', -1, -1, 0);
    field(x, 'l', -1, 0, 2);
    field(x, 'l', -1, 1, 0);
    field(x, 'l', -1, -1, 0);
    field(x, 'u', -1, 0, 110);
    field(x, 'u', 0, -1, 0);
    field(x, 't', -1, 0, 360);
    field(x, 'w', -1, 0, 0);
  }

  private static void fieldsOfAims(TentPlain x) {
    x.unaim(0);
    field(x, 'l', -1, 0, 0);
    x.aim(1, 1501, 0);
    field(x, 'l', -1, 1, 1);
    x.aim(1, 1502, 1);
    field(x, 'l', -1, 1, 0);
    x.aim(1, 1503, 1);
    field(x, 'l', -1, 1, 0);
    int text = Check.tell(x, "h=1");
    check.due("no text", x.holds(text + 1, -1, -1), -1);
    check.due("text below", x.holds(-1, -1, -1), -1);
    check.due("no way", x.holds(text, 1, -1), -1);
    check.due("way -2", x.holds(text, -2, -1), -1);
    check.due("group -2", x.holds(text, -1, -2), -1);
    check.due("a bus", x.holds(text, -1, 2), -1);
    check.due("no group", x.holds(text, -1, 3), -1);
  }

  private static int holds(String text) {
    TentPlain x = new TentPlain();
    return x.holds(Check.tell(x, text), -1, -1);
  }

  private static void meanings() {
    check.due("from the left", holds("9-5-3=1"), 1);
    check.due("from the left", holds("9-5+3=7"), 1);
    check.due("below 0", holds("1-2<0"), 1);
    check.due("or behind and", holds("1=1|1=1&1=2"), 1);
    check.due("and ahead of or", holds("1=2&1=1|1=1"), 1);
    check.due("and", holds("1=1&1=2"), 0);
    check.due("brackets", holds("(1=1|1=1)&1=2"), 0);
    check.due("not of one test alone", holds("!1=2&1=2"), 0);
    check.due("not of brackets", holds("!(1=2&1=1)"), 1);
    check.due("not twice", holds("!!1=1"), 1);
    check.due("less", holds("1<1"), 0);
    check.due("more", holds("1>1"), 0);
    check.due("more", holds("2>1"), 1);
    check.due("0", holds("0=0"), 1);
    check.due("9999", holds("9999+9999-9999=9999"), 1);
  }

  /** Splits a text at its signs: an oracle that shares nothing with the class. */
  private static boolean oracle(String text) {
    int at = lastOutside(text, '|');
    if (at >= 0) return oracle(text.substring(0, at)) | oracle(text.substring(at + 1));
    at = lastOutside(text, '&');
    if (at >= 0) return oracle(text.substring(0, at)) & oracle(text.substring(at + 1));
    if (text.startsWith("!")) return !oracle(text.substring(1));
    if (text.startsWith("(")) return oracle(text.substring(1, text.length() - 1));
    for (char sign : new char[] {'<', '>', '='}) {
      at = text.indexOf(sign);
      if (at < 0) continue;
      int left = sum(text.substring(0, at));
      int right = sum(text.substring(at + 1));
      return sign == '<' ? left < right : sign == '>' ? left > right : left == right;
    }
    throw new AssertionError(text);
  }

  private static int lastOutside(String text, char sign) {
    int depth = 0;
    int last = -1;
    for (int i = 0; i < text.length(); i++) {
      if (text.charAt(i) == '(') depth++;
      if (text.charAt(i) == ')') depth--;
      if (depth == 0 && text.charAt(i) == sign) last = i;
    }
    return last;
  }

  private static int sum(String text) {
    int at = Math.max(text.lastIndexOf('+'), text.lastIndexOf('-'));
    if (at >= 0) {
      int right = sum(text.substring(at + 1));
      return sum(text.substring(0, at)) + (text.charAt(at) == '+' ? right : -right);
    }
    if (text.equals("m")) return 7;
    if (text.equals("x")) return 30;
    return Character.isDigit(text.charAt(0)) ? Integer.parseInt(text) : 0;
  }

  private static void meaningsOfAny() {
    Dice dice = new Dice(2);
    TentPlain x = null;
    int told = 0;
    for (int i = 0; i < 20000; i++) {
      if (told % 5 == 0) {
        x = new TentPlain();
        x.go(7);
      }
      String text = anyText(dice, dice.below(9));
      if (text.length() > 80) continue;
      int number = Check.tell(x, text);
      check.due("is a text: " + text, number >= 0 ? 1 : 0, 1);
      check.due("holds " + text, x.holds(number, -1, -1), oracle(text) ? 1 : 0);
      told++;
    }
  }

  private static void rites() {
    TentPlain x = new TentPlain();
    x.cell(1, 9, 0);
    x.cell(2, 9, 0);
    x.group(0, 10, 2);
    x.group(1, 10, 1);
    x.comes(2, 0);
    for (int hour = 0; hour < 24; hour++) x.heat(hour, 0);
    check.due("no group", x.stands(2, 0, 0), -1);
    check.due("no rite", x.stands(0, 2, 0), -1);
    check.due("rite below", x.stands(0, -1, 0), -1);
    check.due("no school", x.stands(0, 0, 4), -1);
    check.due("school below", x.stands(0, 0, -1), -1);
    check.due("schools: no group", x.schools(2, 0), -1);
    check.due("schools: no rite", x.schools(0, 2), -1);
    Check.go(x, 120);
    check.due("thrown twice", x.body(1, 10), 2);
    check.due("throwing does not stand", x.schools(1, 1), 0);
    x.go(1);
    check.due("thrown three times", x.schools(1, 1), 15);
    field(x, 'w', -1, 1, 3);
    field(x, 'w', -1, 0, 0);
    field(x, 'w', -1, -1, 0);
    Check.go(x, 720 - 121 + 59);
    check.due("stood 59", x.body(0, 9), 59);
    check.due("standing does not stand", x.schools(0, 0), 0);
    x.go(1);
    check.due("stood 60", x.schools(0, 0), 15);
    check.due("not the other rite", x.schools(0, 1), 0);
    for (int school = 0; school < 4; school++) check.due("by " + school, x.stands(0, 0, school), 1);
    int bySchool = Check.tell(x, "s=2&t>59&w=0");
    int never = Check.tell(x, "p+q>0");
    check.due("in force", x.force(1, bySchool), -4);
    x.force(3, never);
    check.due("by its own school", x.schools(0, 0), 7);
    check.due("by 1", x.stands(0, 0, 1), 1);
    check.due("by 3", x.stands(0, 0, 3), 0);
    x.force(4, bySchool);
    check.due("throwing by 0", x.schools(0, 1), 1);
    check.due("throwing of the other", x.schools(1, 1), 14);
    x.force(1, -1);
    x.force(3, -1);
    check.due("none in force", x.schools(0, 0), 15);
  }
}
