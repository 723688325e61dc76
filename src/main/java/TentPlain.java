/** The plain of tents: one object is one plain, told and asked by the calls of ../shared/DOC.md. */
public final class TentPlain {
  private static final int NO_SUCH = -1;
  private static final int NO_ROOM = -2;
  private static final int CANNOT = -3;
  private static final int NONE = -4;
  private static final int FAULTY = -100;
  private static final int NOTHING_HELD = -11;
  private static final int OTHER_KIND = -12;
  private static final int NO_PLACE = -13;
  private static final int BAD_SIZE = -14;
  private static final int NO_FAILURE = -15;
  private static final int ACCEPTED = 0;

  private static final int MAX_CELLS = 16;
  private static final int MAX_WAYS = 24;
  private static final int MAX_BODIES = 40;
  private static final int MAX_POSTS = 8;
  private static final int MAX_AIMS = 8;
  private static final int MAX_TEXTS = 20;
  private static final int MAX_SIZE = 80;
  private static final int MAX_GO = 120;
  private static final int MAX_GATE = 2000;
  private static final int MAX_WATER = 99999;
  private static final int LAST_MINUTE = 4320;
  private static final int DAY = 1440;
  private static final int HOURS = 24;
  private static final int SHELVES = 8;

  private static final int HILL = 1;
  private static final int WALL = 2;
  private static final int STATION = 3;

  private static final int SHUT_SIGN = 3;

  private static final int GROUP = 0;
  private static final int STRAY = 1;
  private static final int BUS = 2;
  private static final int TRAIN = 3;
  private static final int POST = 4;
  private static final int LITTER = 5;

  private static final int RITES = 2;
  private static final int STANDING = 0;
  private static final int SCHOOLS = 4;
  private static final int POST_PURPOSES = 8;
  private static final int PURPOSES = 16;

  private static final int BYTES = 0;
  private static final int INTS = 2;
  private static final int ANY_SORT = -1;

  private static final int SLOTS = 6;
  private static final int ROUND_GROUPS = 5;
  private static final int BEST_WAYS = 8;
  private static final int NO_LIMIT = 0x7fffffff;

  private final Plain plain = new Plain();
  private final Plain image = new Plain();
  private final Plain mind = new Plain();
  private boolean hasImage = false;
  private final Texts texts = new Texts();
  private final History history = new History();
  private final Shelf[] shelves = new Shelf[SHELVES];
  private final WaveSearch waveSearch = new WaveSearch();
  private final RoundSearch roundSearch = new RoundSearch();

  public TentPlain() {
    for (int d = 0; d < SHELVES; d++) shelves[d] = new Shelf();
  }

  // ---- the plain

  public int cell(int sort, int shade, int water) {
    if (!within(sort, 0, 3) || !within(shade, 0, 9) || !within(water, 0, MAX_WATER)) return NO_SUCH;
    if (plain.cells >= MAX_CELLS) return NO_ROOM;
    return plain.addCell(sort, shade, water);
  }

  public int way(int a, int b, int told) {
    if (!isCell(a) || !isCell(b) || a == b) return NO_SUCH;
    if (!within(told / 100, 1, 60) || !within(told % 100, 1, 30)) return NO_SUCH;
    if (plain.ways.count >= MAX_WAYS) return NO_ROOM;
    return plain.ways.add(a, b, told / 100, told % 100);
  }

  public int sign(int way, int sign) {
    if (!isWay(way) || !isSign(sign)) return NO_SUCH;
    return plain.ways.changeSign(way, sign);
  }

  public int heat(int hour, int n) {
    if (!within(hour, 0, HOURS - 1) || !within(n, 0, 60)) return NO_SUCH;
    int ahead = plain.heat[hour];
    plain.heat[hour] = n;
    return ahead;
  }

  public int water(int cell, int n) {
    if (!isCell(cell) || !within(n, 1, 20000)) return NO_SUCH;
    if (plain.water[cell] + n > MAX_WATER) return NO_ROOM;
    plain.water[cell] += n;
    return plain.water[cell];
  }

  public int about(int way, int what) {
    if (!isWay(way)) return NO_SUCH;
    Ways ways = plain.ways;
    switch (what) {
      case 0: return ways.a[way];
      case 1: return ways.b[way];
      case 2: return ways.width[way];
      case 3: return ways.length[way];
      case 4: return ways.sign[way];
      case 5: return ways.press[way];
      case 6: return ways.push[way];
      case 7: return plain.headsOn(way);
      case 8: return ways.shut[way] ? 1 : 0;
      default: return NO_SUCH;
    }
  }

  public int far(int a, int b) {
    if (!isCell(a) || !isCell(b)) return NO_SUCH;
    return leastOrNone(a, b);
  }

  // ---- bodies

  public int group(int cell, int heads, int told) {
    if (!isCell(cell) || !within(heads, 1, 400)) return NO_SUCH;
    if (!within(told / 10, 0, 5) || !within(told % 10, 0, SCHOOLS - 1)) return NO_SUCH;
    if (plain.bodies >= MAX_BODIES) return NO_ROOM;
    Body group = plain.addBody(GROUP, cell);
    group.heads = heads;
    group.tongue = told / 10;
    group.trait = told % 10;
    return group.number;
  }

  public int stray(int cell, int tongue, int age, int group) {
    if (!isCell(cell) || !within(tongue, 0, 5) || !within(age, 0, 110)) return NO_SUCH;
    if (group != -1 && !isOfKind(group, GROUP)) return NO_SUCH;
    if (plain.bodies >= MAX_BODIES) return NO_ROOM;
    Body stray = plain.addBody(STRAY, cell);
    stray.heads = 1;
    stray.tongue = tongue;
    stray.trait = age;
    stray.known = group;
    return stray.number;
  }

  public int comes(int kind, int cell) {
    if (kind != BUS && kind != TRAIN && kind != LITTER) return NO_SUCH;
    if (!isCell(cell)) return NO_SUCH;
    if (plain.bodies >= MAX_BODIES) return NO_ROOM;
    return plain.addBody(kind, cell).number;
  }

  public int post(int way) {
    if (!isWay(way)) return NO_SUCH;
    if (plain.bodies >= MAX_BODIES || plain.posts >= MAX_POSTS) return NO_ROOM;
    Body post = plain.addBody(POST, -1);
    post.way = way;
    return post.number;
  }

  public int aim(int group, int minute, int cell) {
    if (!isOfKind(group, GROUP) || !isMinute(minute) || !isCell(cell)) return NO_SUCH;
    Timetable aims = plain.body[group].aims;
    if (minute < aims.lastMinute()) return NO_SUCH;
    if (aims.count >= MAX_AIMS) return NO_ROOM;
    aims.add(minute, cell);
    return aims.count;
  }

  public int unaim(int group) {
    if (!isOfKind(group, GROUP)) return NO_SUCH;
    Timetable aims = plain.body[group].aims;
    int had = aims.count;
    aims.count = 0;
    return had;
  }

  public int body(int body, int what) {
    if (!isBody(body)) return NO_SUCH;
    Body b = plain.body[body];
    switch (what) {
      case 0: return b.kind;
      case 1: return b.cell >= 0 ? b.cell : NONE;
      case 2: return b.way >= 0 ? b.way : NONE;
      case 3: return b.toGo;
      case 4: return b.heads;
      case 5: return b.seats();
      case 6: return b.tongue >= 0 ? b.tongue : NONE;
      case 7: return b.trait >= 0 ? b.trait : NONE;
      case 8: return b.sun;
      case 9: return b.stood;
      case 10: return b.thrown;
      case 11: return b.fell;
      case 12: return b.fainted;
      case 13: return b.carried;
      default: return NO_SUCH;
    }
  }

  // ---- texts

  public int fault(int d) {
    int refusal = rowRefusal(d, BYTES);
    if (refusal != ACCEPTED) return refusal;
    return texts.faultOf(shelves[d].elements, shelves[d].size);
  }

  public int text(int d) {
    if (!isShelf(d)) return NO_SUCH;
    if (plain.texts >= MAX_TEXTS) return NO_ROOM;
    int refusal = rowRefusal(d, BYTES);
    if (refusal != ACCEPTED) return refusal;
    int fault = texts.faultOf(shelves[d].elements, shelves[d].size);
    if (fault != NONE) return FAULTY - fault;
    int number = plain.texts;
    texts.keepAs(number);
    plain.texts++;
    return number;
  }

  public int force(int purpose, int text) {
    if (!within(purpose, 0, PURPOSES - 1)) return NO_SUCH;
    if (text != -1 && !isText(text)) return NO_SUCH;
    int ahead = plain.inForce[purpose];
    plain.inForce[purpose] = text;
    return ahead >= 0 ? ahead : NONE;
  }

  public int holds(int text, int way, int group) {
    if (!isText(text)) return NO_SUCH;
    if (way != -1 && !isWay(way)) return NO_SUCH;
    if (group != -1 && !isOfKind(group, GROUP)) return NO_SUCH;
    Body of = group == -1 ? null : plain.body[group];
    return texts.isTrue(text, plain.fieldsOf(way, of)) ? 1 : 0;
  }

  public int stands(int group, int rite, int school) {
    if (!isOfKind(group, GROUP) || !isRite(rite) || !within(school, 0, SCHOOLS - 1)) return NO_SUCH;
    return riteStands(plain.body[group], rite, school) ? 1 : 0;
  }

  public int schools(int group, int rite) {
    if (!isOfKind(group, GROUP) || !isRite(rite)) return NO_SUCH;
    int bits = 0;
    for (int school = 0; school < SCHOOLS; school++) {
      if (riteStands(plain.body[group], rite, school)) bits |= 1 << school;
    }
    return bits;
  }

  // ---- minutes

  public int go(int n) {
    if (!within(n, 1, MAX_GO)) return NO_SUCH;
    if (plain.now + n > LAST_MINUTE) return NO_ROOM;
    int greatest = 0;
    for (int i = 0; i < n; i++) {
      Minutes.pass(plain, texts);
      history.note(plain);
      greatest = Math.max(greatest, plain.ways.greatest(plain.ways.press));
    }
    return greatest;
  }

  public int record(int minute, int what) {
    if (!isMinute(minute) || !within(what, 0, History.KINDS - 1)) return NO_SUCH;
    if (minute >= plain.now) return CANNOT;
    return history.recordOf(minute, what);
  }

  public int pushed(int from, int n) {
    if (!isMinute(from) || n < 0) return NO_SUCH;
    for (int minute = from; minute < plain.now; minute++) {
      if (history.recordOf(minute, History.PUSH) >= n) return minute;
    }
    return NONE;
  }

  public int was(int group, int minute) {
    if (!isOfKind(group, GROUP) || !isMinute(minute)) return NO_SUCH;
    if (minute >= plain.now || minute < plain.body[group].born) return CANNOT;
    return history.placeOf(group, minute);
  }

  // ---- strays, counters

  public int whose(int stray) {
    if (!isOfKind(stray, STRAY)) return NO_SUCH;
    if (isFound(stray)) return CANNOT;
    int bits = 0;
    for (int i = 0; i < plain.groups; i++) {
      int group = plain.group[i];
      if (group <= 30 && canBe(stray, group)) bits |= 1 << group;
    }
    return bits;
  }

  public int sure(int stray) {
    if (!isOfKind(stray, STRAY)) return NO_SUCH;
    if (isFound(stray)) return CANNOT;
    int only = NONE;
    for (int i = 0; i < plain.groups; i++) {
      if (canBe(stray, plain.group[i])) {
        if (only != NONE) return NONE;
        only = plain.group[i];
      }
    }
    return only;
  }

  public int bring(int stray, int group) {
    if (!isOfKind(stray, STRAY) || !isOfKind(group, GROUP)) return NO_SUCH;
    if (isFound(stray)) return CANNOT;
    Body to = plain.body[group];
    return leastOrNone(plain.body[stray].cell, to.cell >= 0 ? to.cell : to.end);
  }

  public int found(int stray, int group) {
    if (!isOfKind(stray, STRAY) || !isOfKind(group, GROUP)) return NO_SUCH;
    if (isFound(stray) || !canBe(stray, group)) return CANNOT;
    Body lost = plain.body[stray];
    if (lost.known != -1 && lost.known != group) return CANNOT;
    lost.cell = -1;
    lost.heads = 0;
    plain.body[group].heads++;
    return plain.body[group].heads;
  }

  public int carry(int litter, int group) {
    if (!isOfKind(litter, LITTER) || !isOfKind(group, GROUP)) return NO_SUCH;
    Body of = plain.body[group];
    if (of.cell != plain.body[litter].cell || of.carried >= of.fell + of.fainted) return CANNOT;
    of.carried++;
    return of.carried;
  }

  public int wrong(int d) {
    int refusal = counterRefusal(d);
    if (refusal != ACCEPTED) return refusal;
    for (int way = 0; way < plain.ways.count; way++) {
      if (shelves[d].elements[way] != plain.headsOn(way)) return way;
    }
    return NONE;
  }

  public int closes(int d, int cell) {
    if (!isCell(cell)) return NO_SUCH;
    int refusal = counterRefusal(d);
    if (refusal != ACCEPTED) return refusal;
    long told = 0;
    long there = 0;
    for (int way = 0; way < plain.ways.count; way++) {
      if (plain.ways.touches(way, cell)) {
        told += shelves[d].elements[way];
        there += plain.headsOn(way);
      }
    }
    return told == there ? 1 : 0;
  }

  // ---- waves, rounds, changes

  public int wave(int cell, int rides) {
    if (!isCell(cell) || !within(rides, 1, 2)) return NO_SUCH;
    if (plain.sort[cell] != STATION) return CANNOT;
    waveSearch.solve(plain, cell, rides);
    return waveSearch.mostHeads;
  }

  public int rides(int group, int rides) {
    if (!isOfKind(group, GROUP) || !within(rides, 1, 2)) return NO_SUCH;
    int cell = plain.body[group].cell;
    if (cell < 0 || plain.sort[cell] != STATION) return CANNOT;
    waveSearch.solve(plain, cell, rides);
    return waveSearch.rideOf(group);
  }

  public int round(int k, int gate) {
    if (!areFirstGroups(k) || !isGate(gate)) return NO_SUCH;
    roundSearch.begin(plain, k, gate);
    return roundSearch.solve();
  }

  public int slot(int k, int gate, int i) {
    if (!areFirstGroups(k) || !isGate(gate) || !within(i, 0, k - 1)) return NO_SUCH;
    roundSearch.begin(plain, k, gate);
    return roundSearch.solve() == NONE ? NONE : roundSearch.slots[i];
  }

  public int judge(int d, int gate) {
    if (!isGate(gate)) return NO_SUCH;
    int refusal = rowRefusal(d, BYTES);
    if (refusal != ACCEPTED) return refusal;
    Shelf row = shelves[d];
    if (!areFirstGroups(row.size)) return NO_PLACE;
    roundSearch.begin(plain, row.size, gate);
    for (int i = 0; i < row.size; i++) {
      if (!within(row.elements[i], 0, SLOTS - 1)) return i;
      roundSearch.slots[i] = row.elements[i];
    }
    int over = roundSearch.firstOver();
    return over == NONE ? NONE : 100 + over;
  }

  public int worst(int way, int sign, int n) {
    if (way != -1 && !isWay(way)) return NO_SUCH;
    if (!isSign(sign) || !within(n, 1, MAX_GO)) return NO_SUCH;
    if (plain.now + n > LAST_MINUTE) return NO_ROOM;
    return worstInMind(way, sign, n, NO_LIMIT);
  }

  public int best(int n) {
    if (!within(n, 1, MAX_GO)) return NO_SUCH;
    if (plain.now + n > LAST_MINUTE) return NO_ROOM;
    int least = NO_LIMIT;
    int change = NONE;
    for (int way = 0; way < plain.ways.count && way < BEST_WAYS; way++) {
      for (int sign = 0; sign <= SHUT_SIGN; sign++) {
        int worst = worstInMind(way, sign, n, least);
        if (worst < least) {
          least = worst;
          change = 10 * way + sign;
        }
      }
    }
    return change;
  }

  // ---- the image, what is told

  public int image() {
    image.copyFrom(plain);
    hasImage = true;
    return plain.now;
  }

  public int restore() {
    if (!hasImage) return CANNOT;
    plain.copyFrom(image);
    return plain.now;
  }

  public int count(int what) {
    switch (what) {
      case 0: return plain.cells;
      case 1: return plain.ways.count;
      case 2: return plain.bodies;
      case 3: return plain.groups;
      case 4: return plain.now;
      case 5: return plain.texts;
      case 6: return plain.allHeads();
      case 7: return plain.allFell();
      case 8: return plain.allFainted();
      case 9: return plain.allCarried();
      case 10: return plain.straysNotFound();
      case 11: return plain.allWater();
      case 12: return plain.posts;
      default: return NO_SUCH;
    }
  }

  // ---- shelves

  public int keep(int d, int what, int k) {
    if (!isShelf(d) || !within(what, 0, 1)) return NO_SUCH;
    if (what == 0) {
      shelves[d].holding = Shelf.NOTHING;
      return ACCEPTED;
    }
    if (!isBody(k)) return NO_SUCH;
    shelves[d].holdBody(plain.body[k]);
    return ACCEPTED;
  }

  public int row(int d, int sort, int n) {
    if (!isShelf(d) || !within(sort, BYTES, INTS) || n > MAX_SIZE) return NO_SUCH;
    if (n < 0) return BAD_SIZE;
    shelves[d].holdRow(sort, n);
    return ACCEPTED;
  }

  public int put(int d, int i, int v) {
    int refusal = rowRefusal(d, ANY_SORT);
    if (refusal != ACCEPTED) return refusal;
    if (!within(i, 0, shelves[d].size - 1)) return NO_PLACE;
    shelves[d].become(i, v);
    return ACCEPTED;
  }

  public long element(int d, int i) throws IllegalArgumentException, IllegalStateException {
    if (!isShelf(d)) throw new IllegalArgumentException("no such shelf");
    Shelf shelf = shelves[d];
    if (shelf.holding != Shelf.ROW) throw new IllegalStateException("no row is held");
    if (!within(i, 0, shelf.size - 1)) throw new IllegalStateException("no such place");
    return shelf.elements[i];
  }

  public int copy(int d, int i, int e, int j, int n) {
    if (!isShelf(d) || !isShelf(e)) return NO_SUCH;
    Shelf from = shelves[d];
    Shelf to = shelves[e];
    if (from.holding == Shelf.NOTHING || to.holding == Shelf.NOTHING) return NOTHING_HELD;
    if (from.holding != Shelf.ROW || to.holding != Shelf.ROW || from.sort != to.sort) return OTHER_KIND;
    if (!from.hasPlaces(i, n) || !to.hasPlaces(j, n)) return NO_PLACE;
    System.arraycopy(from.elements, i, to.elements, j, n);
    return n;
  }

  public int weight(int d) {
    int refusal = bodyRefusal(d);
    return refusal != ACCEPTED ? refusal : shelves[d].body.heaviness();
  }

  public int toss(int d) {
    int refusal = bodyRefusal(d);
    if (refusal != ACCEPTED) return refusal;
    Body thrower = shelves[d].body;
    try {
      thrower.fail();
    } catch (UnsupportedOperationException failureOfTrain) {
      return 100 + thrower.number;
    } catch (IllegalStateException failure) {
      return thrower.number;
    }
    return NO_FAILURE;
  }

  // ---- what the calls have in common

  private static boolean within(int n, int least, int most) {
    return n >= least && n <= most;
  }

  private static boolean isSign(int sign) {
    return within(sign, 0, SHUT_SIGN);
  }

  private static boolean isRite(int rite) {
    return within(rite, 0, RITES - 1);
  }

  private static boolean isMinute(int minute) {
    return within(minute, 0, LAST_MINUTE);
  }

  private static boolean isGate(int gate) {
    return within(gate, 1, MAX_GATE);
  }

  private static boolean isShelf(int d) {
    return within(d, 0, SHELVES - 1);
  }

  private boolean isCell(int cell) {
    return within(cell, 0, plain.cells - 1);
  }

  private boolean isWay(int way) {
    return within(way, 0, plain.ways.count - 1);
  }

  private boolean isBody(int body) {
    return within(body, 0, plain.bodies - 1);
  }

  private boolean isOfKind(int body, int kind) {
    return isBody(body) && plain.body[body].kind == kind;
  }

  private boolean isText(int text) {
    return within(text, 0, plain.texts - 1);
  }

  private boolean areFirstGroups(int k) {
    return within(k, 1, ROUND_GROUPS) && k <= plain.groups;
  }

  private boolean isFound(int stray) {
    return plain.body[stray].cell < 0;
  }

  private int leastOrNone(int from, int to) {
    plain.ways.reckon(plain.cells);
    int least = plain.ways.leastFrom(from, to);
    return least < Ways.UNREACHED ? least : NONE;
  }

  private boolean riteStands(Body group, int rite, int school) {
    int text = plain.inForce[SCHOOLS * rite + school];
    if (text >= 0) return texts.isTrue(text, plain.fieldsOf(-1, group));
    return rite == STANDING ? group.stood >= 60 : group.thrown >= 3;
  }

  private boolean canBe(int stray, int group) {
    Body lost = plain.body[stray];
    Body by = plain.body[group];
    if (by.tongue != lost.tongue) return false;
    if (by.cell == lost.cell) return true;
    int from = Math.max(plain.now - 120, by.born);
    return history.wasIn(group, lost.cell, from, plain.now);
  }

  /** Answers limit or more as soon as the WORST can't be below it: what BEST needs no more of. */
  private int worstInMind(int way, int sign, int n, int limit) {
    mind.copyFrom(plain);
    if (way >= 0) mind.ways.changeSign(way, sign);
    int greatest = 0;
    for (int i = 0; i < n && greatest < limit; i++) {
      Minutes.pass(mind, texts);
      greatest = Math.max(greatest, mind.ways.greatest(mind.ways.press));
    }
    return greatest;
  }

  private int rowRefusal(int d, int sort) {
    if (!isShelf(d)) return NO_SUCH;
    Shelf shelf = shelves[d];
    if (shelf.holding == Shelf.NOTHING) return NOTHING_HELD;
    if (shelf.holding != Shelf.ROW) return OTHER_KIND;
    return sort == ANY_SORT || shelf.sort == sort ? ACCEPTED : OTHER_KIND;
  }

  private int counterRefusal(int d) {
    int refusal = rowRefusal(d, INTS);
    if (refusal != ACCEPTED) return refusal;
    return shelves[d].size == plain.ways.count ? ACCEPTED : NO_PLACE;
  }

  private int bodyRefusal(int d) {
    if (!isShelf(d)) return NO_SUCH;
    if (shelves[d].holding == Shelf.NOTHING) return NOTHING_HELD;
    return shelves[d].holding == Shelf.BODY ? ACCEPTED : OTHER_KIND;
  }

  /** A TIMETABLE. */
  private static final class Timetable {
    int count = 0;
    final int[] minutes = new int[MAX_AIMS];
    final int[] cells = new int[MAX_AIMS];

    void copyFrom(Timetable from) {
      count = from.count;
      System.arraycopy(from.minutes, 0, minutes, 0, count);
      System.arraycopy(from.cells, 0, cells, 0, count);
    }

    int lastMinute() {
      return count > 0 ? minutes[count - 1] : 0;
    }

    void add(int minute, int cell) {
      minutes[count] = minute;
      cells[count] = cell;
      count++;
    }

    /** The place of the AIM that holds in a MINUTE, or -1. */
    int holdingIn(int minute) {
      int i = count - 1;
      while (i >= 0 && minutes[i] > minute) i--;
      return i;
    }
  }

  /**
   * A BODY of any KIND; what it has not is -1, or 0 where the document says else 0. One class for all KINDS, as a
   * number may be another KIND's after RESTORE. The trait is a GROUP's SCHOOL or a STRAY's AGE.
   */
  private static final class Body {
    int number;
    int kind;
    int cell;
    int way;
    int end;
    int toGo;
    int heads;
    int tongue;
    int trait;
    int sun;
    int stood;
    int thrown;
    int thrownToday;
    int fell;
    int fainted;
    int carried;
    int known;
    int born;
    final Timetable aims = new Timetable();

    void begin(int number, int kind, int cell, int born) {
      this.number = number;
      this.kind = kind;
      this.cell = cell;
      this.born = born;
      way = -1;
      end = -1;
      toGo = 0;
      heads = 0;
      tongue = -1;
      trait = -1;
      sun = 0;
      stood = 0;
      thrown = 0;
      thrownToday = 0;
      fell = 0;
      fainted = 0;
      carried = 0;
      known = -1;
      aims.count = 0;
    }

    void copyFrom(Body from) {
      number = from.number;
      kind = from.kind;
      cell = from.cell;
      way = from.way;
      end = from.end;
      toGo = from.toGo;
      heads = from.heads;
      tongue = from.tongue;
      trait = from.trait;
      sun = from.sun;
      stood = from.stood;
      thrown = from.thrown;
      thrownToday = from.thrownToday;
      fell = from.fell;
      fainted = from.fainted;
      carried = from.carried;
      known = from.known;
      born = from.born;
      aims.copyFrom(from.aims);
    }

    int seats() {
      switch (kind) {
        case BUS: return 50;
        case TRAIN: return 6 * 50;
        case LITTER: return 1;
        default: return 0;
      }
    }

    int heaviness() {
      int plainly = 10 + heads + seats();
      switch (kind) {
        case GROUP: return plainly + aims.count;
        case STRAY: return plainly + trait;
        case BUS: return plainly + 100;
        case TRAIN: return 2 * (plainly + 100);
        case POST: return plainly + 200 + way;
        default: return plainly;
      }
    }

    /** Comes back only where there is no FAILURE. */
    void fail() {
      if (kind == LITTER || cell < 0) return;
      if (kind == TRAIN) throw new UnsupportedOperationException("a train fails");
      throw new IllegalStateException("a body fails");
    }
  }

  /** The WAYS, and the least LENGTHS over them. */
  private static final class Ways {
    static final int UNREACHED = 1000000;

    int count = 0;
    final int[] a = new int[MAX_WAYS];
    final int[] b = new int[MAX_WAYS];
    final int[] width = new int[MAX_WAYS];
    final int[] length = new int[MAX_WAYS];
    final int[] sign = new int[MAX_WAYS];
    final int[] press = new int[MAX_WAYS];
    final int[] push = new int[MAX_WAYS];
    final int[] pushAhead = new int[MAX_WAYS];
    final boolean[] shut = new boolean[MAX_WAYS];
    final int[] load = new int[MAX_WAYS];
    boolean reckoned = false;
    final int[] least = new int[MAX_CELLS * MAX_CELLS];

    void copyFrom(Ways from) {
      count = from.count;
      System.arraycopy(from.a, 0, a, 0, count);
      System.arraycopy(from.b, 0, b, 0, count);
      System.arraycopy(from.width, 0, width, 0, count);
      System.arraycopy(from.length, 0, length, 0, count);
      System.arraycopy(from.sign, 0, sign, 0, count);
      System.arraycopy(from.press, 0, press, 0, count);
      System.arraycopy(from.push, 0, push, 0, count);
      System.arraycopy(from.shut, 0, shut, 0, count);
      reckoned = from.reckoned;
      if (reckoned) System.arraycopy(from.least, 0, least, 0, least.length);
    }

    int add(int from, int to, int wide, int dist) {
      int way = count;
      a[way] = from;
      b[way] = to;
      width[way] = wide;
      length[way] = dist;
      sign[way] = 0;
      press[way] = 0;
      push[way] = 0;
      shut[way] = false;
      count++;
      reckoned = false;
      return way;
    }

    int changeSign(int way, int to) {
      int ahead = sign[way];
      sign[way] = to;
      if (to != ahead) reckoned = false;
      return ahead;
    }

    boolean touches(int way, int cell) {
      return a[way] == cell || b[way] == cell;
    }

    boolean areNeighbours(int one, int other) {
      return touches(one, a[other]) || touches(one, b[other]);
    }

    /** The CELL to which a WAY leads on from another by its SIGN, or -1. */
    int endFrom(int way, int cell) {
      if (a[way] == cell && (sign[way] == 0 || sign[way] == 1)) return b[way];
      if (b[way] == cell && (sign[way] == 0 || sign[way] == 2)) return a[way];
      return -1;
    }

    int greatest(int[] of) {
      int greatest = 0;
      for (int w = 0; w < count; w++) greatest = Math.max(greatest, of[w]);
      return greatest;
    }

    void reckon(int cells) {
      if (reckoned) return;
      for (int from = 0; from < cells; from++) {
        for (int to = 0; to < cells; to++) {
          least[from * MAX_CELLS + to] = from == to ? 0 : UNREACHED;
        }
      }
      for (int w = 0; w < count; w++) {
        if (sign[w] == 0 || sign[w] == 1) shorten(a[w], b[w], length[w]);
        if (sign[w] == 0 || sign[w] == 2) shorten(b[w], a[w], length[w]);
      }
      for (int over = 0; over < cells; over++) {
        for (int from = 0; from < cells; from++) {
          int ahead = least[from * MAX_CELLS + over];
          if (ahead < UNREACHED) shortenOver(over, from, ahead, cells);
        }
      }
      reckoned = true;
    }

    /** Of CELLS since the WAYS were reckoned last. */
    int leastFrom(int from, int to) {
      return least[from * MAX_CELLS + to];
    }

    private void shortenOver(int over, int from, int ahead, int cells) {
      for (int to = 0; to < cells; to++) {
        shorten(from, to, ahead + least[over * MAX_CELLS + to]);
      }
    }

    private void shorten(int from, int to, int dist) {
      int i = from * MAX_CELLS + to;
      if (dist < least[i]) least[i] = dist;
    }
  }

  /** All that THE IMAGE keeps. TEXTS and what went by are only added to, so a number of each is enough of them. */
  private static final class Plain {
    int now = 0;
    int texts = 0;
    int cells = 0;
    final int[] sort = new int[MAX_CELLS];
    final int[] shade = new int[MAX_CELLS];
    final int[] water = new int[MAX_CELLS];
    final Ways ways = new Ways();
    final int[] heat = new int[HOURS];
    final int[] inForce = new int[PURPOSES];
    int bodies = 0;
    final Body[] body = new Body[MAX_BODIES];
    int groups = 0;
    final int[] group = new int[MAX_BODIES];
    int posts = 0;
    final int[] post = new int[MAX_POSTS];
    final int[] fields = new int[Texts.FIELD_COUNT];

    Plain() {
      for (int i = 0; i < MAX_BODIES; i++) body[i] = new Body();
      for (int hour = 0; hour < HOURS; hour++) heat[hour] = 30;
      for (int purpose = 0; purpose < PURPOSES; purpose++) inForce[purpose] = -1;
    }

    void copyFrom(Plain from) {
      now = from.now;
      texts = from.texts;
      cells = from.cells;
      System.arraycopy(from.sort, 0, sort, 0, cells);
      System.arraycopy(from.shade, 0, shade, 0, cells);
      System.arraycopy(from.water, 0, water, 0, cells);
      ways.copyFrom(from.ways);
      System.arraycopy(from.heat, 0, heat, 0, HOURS);
      System.arraycopy(from.inForce, 0, inForce, 0, PURPOSES);
      bodies = from.bodies;
      for (int i = 0; i < bodies; i++) body[i].copyFrom(from.body[i]);
      groups = from.groups;
      System.arraycopy(from.group, 0, group, 0, groups);
      posts = from.posts;
      System.arraycopy(from.post, 0, post, 0, posts);
    }

    int addCell(int itsSort, int itsShade, int itsWater) {
      int cell = cells;
      sort[cell] = itsSort;
      shade[cell] = itsShade;
      water[cell] = itsWater;
      cells++;
      ways.reckoned = false;
      return cell;
    }

    Body addBody(int kind, int cell) {
      Body added = body[bodies];
      added.begin(bodies, kind, cell, now);
      if (kind == GROUP) group[groups++] = bodies;
      if (kind == POST) post[posts++] = bodies;
      bodies++;
      return added;
    }

    Body groupAt(int i) {
      return body[group[i]];
    }

    int hour() {
      return now / 60 % HOURS;
    }

    int headsOn(int way) {
      int heads = 0;
      for (int i = 0; i < groups; i++) {
        if (groupAt(i).way == way) heads += groupAt(i).heads;
      }
      return heads;
    }

    int late(Body of) {
      int i = of.aims.holdingIn(now);
      return i >= 0 ? now - of.aims.minutes[i] : 0;
    }

    /** The FIELDS in the order of Texts.FIELDS; way -1 and no group have none. */
    int[] fieldsOf(int way, Body of) {
      fields[0] = now % DAY;
      fields[1] = hour();
      fields[2] = now / DAY;
      fields[3] = way >= 0 ? ways.press[way] : 0;
      fields[4] = way >= 0 ? ways.push[way] : 0;
      fields[5] = of != null ? of.heads : 0;
      fields[6] = of != null ? of.trait : 0;
      fields[7] = of != null ? late(of) : 0;
      fields[8] = of != null ? of.sun : 0;
      fields[9] = of != null ? of.stood : 0;
      fields[10] = of != null ? of.thrown : 0;
      fields[11] = heat[hour()];
      return fields;
    }

    int allHeads() {
      int all = 0;
      for (int i = 0; i < groups; i++) all += groupAt(i).heads;
      return all;
    }

    int allFell() {
      int all = 0;
      for (int i = 0; i < groups; i++) all += groupAt(i).fell;
      return all;
    }

    int allFainted() {
      int all = 0;
      for (int i = 0; i < groups; i++) all += groupAt(i).fainted;
      return all;
    }

    int allCarried() {
      int all = 0;
      for (int i = 0; i < groups; i++) all += groupAt(i).carried;
      return all;
    }

    int straysNotFound() {
      int all = 0;
      for (int i = 0; i < bodies; i++) {
        if (body[i].kind == STRAY && body[i].cell >= 0) all++;
      }
      return all;
    }

    int allWater() {
      int all = 0;
      for (int i = 0; i < cells; i++) all += water[i];
      return all;
    }
  }

  /** A MINUTE that goes by, step for step as the document's part 3 tells it. */
  private static final class Minutes {
    static void pass(Plain plain, Texts texts) {
      weighWays(plain);
      pushWays(plain.ways);
      shutWays(plain, texts);
      letFall(plain);
      walkOn(plain);
      stepOut(plain);
      keepRites(plain);
      sufferHeat(plain);
      plain.now++;
    }

    private static void loadWays(Plain plain) {
      int[] load = plain.ways.load;
      for (int w = 0; w < plain.ways.count; w++) load[w] = 0;
      for (int i = 0; i < plain.groups; i++) {
        Body group = plain.groupAt(i);
        if (group.way >= 0) load[group.way] += group.heads;
      }
    }

    private static void weighWays(Plain plain) {
      loadWays(plain);
      Ways ways = plain.ways;
      for (int w = 0; w < ways.count; w++) ways.press[w] = ways.load[w] / ways.width[w];
    }

    private static void pushWays(Ways ways) {
      System.arraycopy(ways.push, 0, ways.pushAhead, 0, ways.count);
      for (int w = 0; w < ways.count; w++) {
        int press = ways.press[w];
        if (press > 60) ways.push[w] = press - 60 + ways.pushAhead[w] / 2;
        else if (press >= 30) ways.push[w] = neighboursPush(ways, w) / 2;
        else ways.push[w] = 0;
      }
    }

    private static int neighboursPush(Ways ways, int way) {
      int greatest = 0;
      for (int w = 0; w < ways.count; w++) {
        if (w != way && ways.pushAhead[w] > greatest && ways.areNeighbours(w, way)) greatest = ways.pushAhead[w];
      }
      return greatest;
    }

    private static void shutWays(Plain plain, Texts texts) {
      Ways ways = plain.ways;
      for (int w = 0; w < ways.count; w++) ways.shut[w] = ways.sign[w] == SHUT_SIGN;
      for (int k = 0; k < plain.posts; k++) {
        int way = plain.body[plain.post[k]].way;
        int text = plain.inForce[POST_PURPOSES + k];
        if (text >= 0 && texts.isTrue(text, plain.fieldsOf(way, null))) ways.shut[way] = true;
      }
    }

    private static void letFall(Plain plain) {
      for (int i = 0; i < plain.groups; i++) {
        Body group = plain.groupAt(i);
        if (group.way >= 0 && plain.ways.push[group.way] >= 20) {
          int falling = Math.min(group.heads, group.heads * plain.ways.push[group.way] / 500);
          group.heads -= falling;
          group.fell += falling;
        }
      }
    }

    private static void walkOn(Plain plain) {
      for (int i = 0; i < plain.groups; i++) {
        Body group = plain.groupAt(i);
        if (group.way >= 0 && canWalk(plain.ways.press[group.way], plain.now)) {
          group.toGo--;
          if (group.toGo <= 0) {
            group.cell = group.end;
            group.way = -1;
            group.end = -1;
            group.toGo = 0;
          }
        }
      }
    }

    private static boolean canWalk(int press, int now) {
      return press < 40 || press < 80 && now % 2 == 0;
    }

    private static void stepOut(Plain plain) {
      loadWays(plain);
      plain.ways.reckon(plain.cells);
      for (int i = 0; i < plain.groups; i++) {
        Body group = plain.groupAt(i);
        if (group.cell >= 0 && group.heads > 0) {
          int aim = group.aims.holdingIn(plain.now);
          if (aim >= 0 && group.aims.cells[aim] != group.cell) stepToward(plain.ways, group, group.aims.cells[aim]);
        }
      }
    }

    private static void stepToward(Ways ways, Body group, int goal) {
      int way = firstWayToward(ways, group.cell, goal);
      if (way < 0 || ways.load[way] + group.heads > 100 * ways.width[way]) return;
      ways.load[way] += group.heads;
      group.end = ways.endFrom(way, group.cell);
      group.toGo = ways.length[way];
      group.way = way;
      group.cell = -1;
    }

    private static int firstWayToward(Ways ways, int cell, int goal) {
      int whole = ways.leastFrom(cell, goal);
      if (whole >= Ways.UNREACHED) return -1;
      for (int w = 0; w < ways.count; w++) {
        int end = ways.shut[w] ? -1 : ways.endFrom(w, cell);
        if (end >= 0 && ways.length[w] + ways.leastFrom(end, goal) == whole) return w;
      }
      return -1;
    }

    private static void keepRites(Plain plain) {
      int hour = plain.hour();
      boolean standing = hour >= 12 && hour <= 17;
      boolean throwing = plain.now % 60 == 0;
      if (!standing && !throwing) return;
      for (int i = 0; i < plain.groups; i++) {
        Body group = plain.groupAt(i);
        if (plain.now % DAY == 0) group.thrownToday = 0;
        if (group.cell >= 0 && group.heads > 0) {
          int sort = plain.sort[group.cell];
          if (sort == HILL && standing) group.stood++;
          if (sort == WALL && throwing && group.thrownToday < 7) {
            group.thrown++;
            group.thrownToday++;
          }
        }
      }
    }

    private static void sufferHeat(Plain plain) {
      int heat = plain.heat[plain.hour()];
      boolean drinking = plain.now % 30 == 0;
      for (int i = 0; i < plain.groups; i++) {
        Body group = plain.groupAt(i);
        if (group.heads > 0) {
          if (group.cell < 0) {
            group.sun += heat;
          } else {
            group.sun += Math.max(0, heat - 3 * plain.shade[group.cell]);
            if (drinking) drink(plain, group);
          }
          if (group.sun > 1500) faint(group);
        }
      }
    }

    private static void drink(Plain plain, Body group) {
      int there = plain.water[group.cell];
      if (there >= group.heads) {
        plain.water[group.cell] = there - group.heads;
        group.sun = 0;
      } else {
        plain.water[group.cell] = 0;
        group.sun -= group.sun * there / group.heads;
      }
    }

    private static void faint(Body group) {
      int fainting = Math.min(group.heads, group.heads / 50 + 1);
      group.heads -= fainting;
      group.fainted += fainting;
      group.sun = 1000;
    }
  }

  /** THE RECORD and where GROUPS were, of each MINUTE. Eight places share a long, as the room is small. */
  private static final class History {
    static final int KINDS = 5;
    static final int PUSH = 1;
    static final int ON_WAY = 100;
    private static final int SHARING = 8;
    private static final int PLACE_BITS = 8;
    private static final long PLACE_MASK = 255;

    private final int[] records = new int[KINDS * LAST_MINUTE];
    private final long[] places = new long[MAX_BODIES * LAST_MINUTE / SHARING];

    /** Of the MINUTE that went by last. */
    void note(Plain plain) {
      int minute = plain.now - 1;
      if (minute < 0 || minute >= LAST_MINUTE) return;
      int at = KINDS * minute;
      records[at] = plain.ways.greatest(plain.ways.press);
      records[at + PUSH] = plain.ways.greatest(plain.ways.push);
      records[at + 2] = plain.allHeads();
      records[at + 3] = plain.allFell();
      records[at + 4] = plain.allFainted();
      for (int i = 0; i < plain.groups; i++) {
        Body group = plain.groupAt(i);
        notePlace(group.number * LAST_MINUTE + minute, group.cell >= 0 ? group.cell : ON_WAY + group.way);
      }
    }

    int recordOf(int minute, int what) {
      return records[KINDS * minute + what];
    }

    int placeOf(int group, int minute) {
      int i = group * LAST_MINUTE + minute;
      return (int) (places[i / SHARING] >>> i % SHARING * PLACE_BITS & PLACE_MASK);
    }

    private void notePlace(int i, long place) {
      int shift = i % SHARING * PLACE_BITS;
      places[i / SHARING] = places[i / SHARING] & ~(PLACE_MASK << shift) | place << shift;
    }

    boolean wasIn(int group, int cell, int from, int before) {
      for (int minute = Math.max(0, from); minute < before; minute++) {
        if (placeOf(group, minute) == cell) return true;
      }
      return false;
    }
  }

  /** Reads TEXTS into codes that go from the left over a stack: reading finds the FAULT, holding needs no reading. */
  private static final class Texts {
    static final String FIELDS = "mhdpqnslutwx";
    static final int FIELD_COUNT = 12;
    private static final int MAX_DEPTH = 8;
    private static final int END = -1;
    private static final int FIELD = 10000;
    private static final int SIGN = 20000;

    private final int[] codes = new int[MAX_TEXTS * MAX_SIZE];
    private final int[] sizes = new int[MAX_TEXTS];
    private final int[] made = new int[MAX_SIZE];
    private int madeSize = 0;
    private final int[] row = new int[MAX_SIZE];
    private int size = 0;
    private int at = 0;
    private int fault = NONE;
    private final int[] stack = new int[MAX_SIZE];

    int faultOf(int[] elements, int n) {
      System.arraycopy(elements, 0, row, 0, n);
      size = n;
      at = 0;
      fault = NONE;
      madeSize = 0;
      readOr(0);
      if (fault == NONE && at < size) fault = at;
      return fault;
    }

    /** Keeps what faultOf read last. */
    void keepAs(int text) {
      System.arraycopy(made, 0, codes, text * MAX_SIZE, madeSize);
      sizes[text] = madeSize;
    }

    boolean isTrue(int text, int[] fields) {
      int top = 0;
      int from = text * MAX_SIZE;
      for (int i = 0; i < sizes[text] && top < MAX_SIZE; i++) {
        int code = codes[from + i];
        if (code < FIELD) {
          stack[top++] = code;
        } else if (code < SIGN) {
          stack[top++] = fields[code - FIELD];
        } else if (code == SIGN + '!') {
          if (top > 0) stack[top - 1] = 1 - stack[top - 1];
        } else if (top > 1) {
          top--;
          stack[top - 1] = joined(code - SIGN, stack[top - 1], stack[top]);
        }
      }
      return top > 0 && stack[0] != 0;
    }

    private static int joined(int sign, int left, int right) {
      switch (sign) {
        case '+': return left + right;
        case '-': return left - right;
        case '<': return left < right ? 1 : 0;
        case '>': return left > right ? 1 : 0;
        case '=': return left == right ? 1 : 0;
        case '&': return left & right;
        default: return left | right;
      }
    }

    private int next() {
      return fault == NONE && at < size ? row[at] : END;
    }

    /** Only the first fault counts; behind it nothing is read any more. */
    private void takeIf(boolean fits) {
      if (fault != NONE) return;
      if (fits) at++;
      else fault = at;
    }

    private void make(int code) {
      if (fault == NONE && madeSize < MAX_SIZE) made[madeSize++] = code;
    }

    private void readOr(int depth) {
      readAnd(depth);
      for (int turn = 0; turn < MAX_SIZE && next() == '|'; turn++) {
        at++;
        readAnd(depth);
        make(SIGN + '|');
      }
    }

    private void readAnd(int depth) {
      readTest(depth);
      for (int turn = 0; turn < MAX_SIZE && next() == '&'; turn++) {
        at++;
        readTest(depth);
        make(SIGN + '&');
      }
    }

    private void readTest(int depth) {
      boolean not = false;
      for (int turn = 0; turn < MAX_SIZE && next() == '!'; turn++) {
        at++;
        not = !not;
      }
      // a bracket too deep is read as a SUM, which refuses it in its place
      if (next() == '(' && depth < MAX_DEPTH) {
        at++;
        readOr(depth + 1);
        takeIf(next() == ')');
      } else {
        readSum();
        int sign = next();
        takeIf(sign == '<' || sign == '>' || sign == '=');
        readSum();
        make(SIGN + sign);
      }
      if (not) make(SIGN + '!');
    }

    private void readSum() {
      readAtom();
      for (int turn = 0; turn < MAX_SIZE && (next() == '+' || next() == '-'); turn++) {
        int sign = next();
        at++;
        readAtom();
        make(SIGN + sign);
      }
    }

    private void readAtom() {
      int sign = next();
      int field = sign > 0 ? FIELDS.indexOf((char) sign) : -1;
      takeIf(field >= 0 || isDigit(sign));
      if (field >= 0) {
        make(FIELD + field);
        return;
      }
      int number = sign - '0';
      // behind a 0 ahead no digit may come, and behind four none
      for (int digits = 1; digits < 4 && number > 0 && isDigit(next()); digits++) {
        number = 10 * number + next() - '0';
        at++;
      }
      make(number);
    }

    private static boolean isDigit(int sign) {
      return sign >= '0' && sign <= '9';
    }
  }

  /** A SHELF; its BODY is a copy, as it was when it was kept. */
  private static final class Shelf {
    static final int NOTHING = 0;
    static final int BODY = 1;
    static final int ROW = 2;

    int holding = NOTHING;
    final Body body = new Body();
    int sort = BYTES;
    int size = 0;
    final int[] elements = new int[MAX_SIZE];

    void holdBody(Body kept) {
      holding = BODY;
      body.copyFrom(kept);
    }

    void holdRow(int itsSort, int n) {
      holding = ROW;
      sort = itsSort;
      size = n;
      for (int i = 0; i < n; i++) elements[i] = 0;
    }

    void become(int i, int v) {
      if (sort == BYTES) elements[i] = (byte) v;
      else if (sort == INTS) elements[i] = v;
      else elements[i] = (short) v;
    }

    boolean hasPlaces(int from, int n) {
      return n >= 0 && from >= 0 && n <= size && from <= size - n;
    }
  }

  /** THE WAVE of one CELL. */
  private static final class WaveSearch {
    private static final int GROUPS = 6;
    private static final int VEHICLES = 3;

    private int groups = 0;
    private final int[] group = new int[GROUPS];
    private final int[] heads = new int[GROUPS];
    private final int[] headsFrom = new int[GROUPS + 1];
    private int vehicles = 0;
    private final int[] vehicle = new int[VEHICLES];
    private int ridesEach = 1;
    private final int[] room = new int[2 * VEHICLES];
    private final int[] chosen = new int[GROUPS];
    private final int[] kept = new int[GROUPS];
    int mostHeads = -1;

    void solve(Plain plain, int cell, int rides) {
      groups = 0;
      vehicles = 0;
      ridesEach = rides;
      for (int i = 0; i < plain.bodies; i++) gather(plain.body[i], cell);
      headsFrom[groups] = 0;
      for (int i = groups - 1; i >= 0; i--) headsFrom[i] = headsFrom[i + 1] + heads[i];
      mostHeads = -1;
      choose(0, 0);
    }

    private void gather(Body body, int cell) {
      if (body.cell != cell) return;
      if (body.kind == GROUP && body.heads > 0 && groups < GROUPS) {
        group[groups] = body.number;
        heads[groups] = body.heads;
        groups++;
      }
      if ((body.kind == BUS || body.kind == TRAIN) && vehicles < VEHICLES) {
        vehicle[vehicles] = body.number;
        for (int ride = 0; ride < ridesEach; ride++) room[vehicles * ridesEach + ride] = body.seats();
        vehicles++;
      }
    }

    /** In the order of THE WAVE, so that the first of those with most HEADS is kept. */
    private void choose(int i, int gone) {
      if (i >= groups) {
        if (gone > mostHeads) keepChosen(gone);
        return;
      }
      if (gone + headsFrom[i] <= mostHeads) return;
      for (int ride = 0; ride < vehicles * ridesEach; ride++) {
        if (room[ride] >= heads[i] && !hasTwinAhead(ride)) {
          chosen[i] = ride;
          room[ride] -= heads[i];
          choose(i + 1, gone + heads[i]);
          room[ride] += heads[i];
        }
      }
      chosen[i] = -1;
      choose(i + 1, gone);
    }

    /** A ride with as much room as one ahead can't be better than that, and is behind it. */
    private boolean hasTwinAhead(int ride) {
      for (int ahead = 0; ahead < ride; ahead++) {
        if (room[ahead] == room[ride]) return true;
      }
      return false;
    }

    private void keepChosen(int gone) {
      mostHeads = gone;
      System.arraycopy(chosen, 0, kept, 0, groups);
    }

    int rideOf(int number) {
      for (int i = 0; i < groups; i++) {
        if (group[i] == number && kept[i] >= 0) return 10 * vehicle[kept[i] / ridesEach] + kept[i] % ridesEach;
      }
      return NONE;
    }
  }

  /** THE ROUND of the first GROUPS through a gate. */
  private static final class RoundSearch {
    private int count = 0;
    private int gate = 1;
    private final int[] heads = new int[ROUND_GROUPS];
    final int[] slots = new int[ROUND_GROUPS];

    void begin(Plain plain, int k, int itsGate) {
      count = k;
      gate = itsGate;
      for (int i = 0; i < k; i++) heads[i] = plain.groupAt(i).heads;
    }

    /** The greatest SLOT of THE ROUND, which is in slots then. */
    int solve() {
      for (int top = 0; top < SLOTS; top++) {
        if (choose(0, top)) return top;
      }
      return NONE;
    }

    private boolean choose(int i, int top) {
      if (i >= count) return true;
      for (int slot = 0; slot <= top; slot++) {
        slots[i] = slot;
        boolean fits = mostIn(slot, i + 1) <= gate && mostIn(slot + 1, i + 1) <= gate;
        if (fits && choose(i + 1, top)) return true;
      }
      return false;
    }

    int firstOver() {
      for (int slot = 0; slot < SLOTS; slot++) {
        if (mostIn(slot, count) > gate) return slot;
      }
      return NONE;
    }

    /** How many HEADS of the first GROUPS may come in a SLOT, with the greatest one of the SLOT ahead LATE. */
    private int mostIn(int slot, int placed) {
      if (slot >= SLOTS) return 0;
      int there = 0;
      int late = 0;
      for (int i = 0; i < placed; i++) {
        if (slots[i] == slot) there += heads[i];
        if (slots[i] == slot - 1) late = Math.max(late, heads[i]);
      }
      return there + late;
    }
  }
}
