/**
 * Four functions of two hundred places, each of which keeps one value over stretches.
 *
 * <p>A function is held as the plain row of its values; its steps are read off the row, so that
 * they are always the fewest that tell it.
 */
public final class Stepfunctions {
  private static final int PLACES = 200;
  private static final int FUNCTIONS = 4;
  private static final int MOST_STEPS = 20;
  private static final int GREATEST = 9999;
  private static final int MOST_TIMES = 9;
  private static final int NONE = -1;
  private static final int REFUSED = -9;

  private final Row[] functions = new Row[FUNCTIONS];

  /** What an act would make of a function; it becomes that only if it is within the limits. */
  private final Row draft = new Row();

  /** At which places a step goes, for the act at hand. */
  private final boolean[] leaving = new boolean[PLACES];

  private final Soundness soundness = new Soundness();

  /** The function whose steps the walk tells, or NONE without a walk. */
  private int walked = NONE;

  /** The step that the walk told last, or NONE ahead of its first one. */
  private int walkPlace = NONE;

  private int refusals = 0;
  private int knocks = 0;

  public Stepfunctions() {
    for (int one = 0; one < FUNCTIONS; one++) {
      functions[one] = new Row();
    }
  }

  // ---- one function changes

  public int flat(int one, int value) throws IndexOutOfBoundsException, IllegalArgumentException {
    demandFunction(one);
    demandValue(value);
    int had = functions[one].stepCount();
    draft.fill(0, PLACES, value);
    settle(one);
    return had;
  }

  public int set(int one, int from, int to, int value)
      throws IndexOutOfBoundsException, IllegalArgumentException {
    demandFunction(one);
    demandSpan(from, to);
    demandValue(value);
    draft.take(functions[one]);
    draft.fill(from, to, value);
    return settle(one);
  }

  public int add(int one, int from, int to, int by)
      throws IndexOutOfBoundsException, IllegalArgumentException {
    demandFunction(one);
    demandSpan(from, to);
    demandValue(by);
    draft.take(functions[one]);
    draft.increase(from, to, by);
    return settle(one);
  }

  public int raise(int one, int from, int to, int value)
      throws IndexOutOfBoundsException, IllegalArgumentException {
    demandFunction(one);
    demandSpan(from, to);
    demandValue(value);
    draft.take(functions[one]);
    draft.pushUp(from, to, value);
    return settle(one);
  }

  public int lower(int one, int from, int to, int value)
      throws IndexOutOfBoundsException, IllegalArgumentException {
    demandFunction(one);
    demandSpan(from, to);
    demandValue(value);
    draft.take(functions[one]);
    draft.pushDown(from, to, value);
    return settle(one);
  }

  public int negate(int one) throws IndexOutOfBoundsException {
    demandFunction(one);
    draft.take(functions[one]);
    draft.multiply(-1);
    settle(one);
    return functions[one].valueAt(0);
  }

  public int scale(int one, int by) throws IndexOutOfBoundsException, IllegalArgumentException {
    demandFunction(one);
    demandArgument(by >= -MOST_TIMES && by <= MOST_TIMES);
    draft.take(functions[one]);
    draft.multiply(by);
    return settle(one);
  }

  public int copy(int one, int into) throws IndexOutOfBoundsException {
    demandFunction(one);
    demandFunction(into);
    int wereSame = functions[one].isSameAs(functions[into]) ? 1 : 0;
    draft.take(functions[one]);
    settle(into);
    return wereSame;
  }

  public int swap(int one, int other) throws IndexOutOfBoundsException {
    demandFunction(one);
    demandFunction(other);
    loseWalk(one);
    loseWalk(other);
    Row first = functions[one];
    functions[one] = functions[other];
    functions[other] = first;
    return functions[one].stepCount();
  }

  public int splice(int one, int from, int to, int other) throws IndexOutOfBoundsException {
    demandFunction(one);
    demandFunction(other);
    demandSpan(from, to);
    draft.take(functions[one]);
    draft.takeOver(from, to, functions[other]);
    return settle(one);
  }

  public int shift(int one, int by, int value)
      throws IndexOutOfBoundsException, IllegalArgumentException {
    demandFunction(one);
    demandArgument(by >= -PLACES && by <= PLACES);
    demandValue(value);
    draft.becomeShifted(functions[one], by, value);
    return settle(one);
  }

  public int mirror(int one) throws IndexOutOfBoundsException {
    demandFunction(one);
    draft.becomeMirrored(functions[one]);
    settle(one);
    return functions[one].valueAt(0);
  }

  public int dropStep(int one, int place) throws IndexOutOfBoundsException {
    demandFunction(one);
    demandPlace(place);
    if (place == 0 || !functions[one].begins(place)) {
      return refuse(one);
    }
    int had = functions[one].valueAt(place);
    dropAt(one, place);
    return had;
  }

  public int dropLast(int one) throws IndexOutOfBoundsException {
    demandFunction(one);
    int last = functions[one].lastBelow(PLACES, false);
    if (last <= 0) {
      return refuse(one);
    }
    dropAt(one, last);
    return last;
  }

  public int dropFirst(int one) throws IndexOutOfBoundsException {
    demandFunction(one);
    int next = functions[one].firstAbove(0, false);
    if (next == NONE) {
      return refuse(one);
    }
    draft.take(functions[one]);
    draft.fill(0, next, functions[one].valueAt(next));
    settle(one);
    return next;
  }

  public int lift(int one, int place, int value)
      throws IndexOutOfBoundsException, IllegalArgumentException {
    demandFunction(one);
    demandPlace(place);
    demandValue(value);
    int had = functions[one].valueAt(place);
    giveStretch(one, place, value);
    return had;
  }

  public boolean restep(int one, int place, int was, int then)
      throws IndexOutOfBoundsException, IllegalArgumentException {
    demandFunction(one);
    demandPlace(place);
    demandValue(then);
    loseWalk(one);
    if (!functions[one].begins(place) || functions[one].valueAt(place) != was) {
      return false;
    }
    giveStretch(one, place, then);
    return true;
  }

  public boolean unstep(int one, int place, int was) throws IndexOutOfBoundsException {
    demandFunction(one);
    demandPlace(place);
    loseWalk(one);
    if (place == 0 || !functions[one].begins(place) || functions[one].valueAt(place) != was) {
      return false;
    }
    dropAt(one, place);
    return true;
  }

  public int glue(int one, int above, int upto) throws IndexOutOfBoundsException {
    demandFunction(one);
    demandPlace(above);
    demandPlace(upto);
    demandIndex(above <= upto);
    for (int place = 0; place < PLACES; place++) {
      leaving[place] = place > above && place <= upto;
    }
    return letGo(one);
  }

  public int keepSteps(int one, int other) throws IndexOutOfBoundsException {
    demandFunction(one);
    demandFunction(other);
    for (int place = 0; place < PLACES; place++) {
      leaving[place] = !functions[other].begins(place);
    }
    letGo(one);
    return functions[one].stepCount();
  }

  public int loseSteps(int one, int other) throws IndexOutOfBoundsException {
    demandFunction(one);
    demandFunction(other);
    for (int place = 0; place < PLACES; place++) {
      leaving[place] = functions[other].begins(place);
    }
    letGo(one);
    return functions[one].stepCount();
  }

  // ---- two functions

  public int sum(int one, int other, int into) throws IndexOutOfBoundsException {
    demandFunction(one);
    demandFunction(other);
    demandFunction(into);
    draft.becomeSum(functions[one], functions[other]);
    return settle(into);
  }

  public int less(int one, int other, int into) throws IndexOutOfBoundsException {
    demandFunction(one);
    demandFunction(other);
    demandFunction(into);
    draft.becomeRest(functions[one], functions[other]);
    return settle(into);
  }

  public int meet(int one, int other, int into) throws IndexOutOfBoundsException {
    demandFunction(one);
    demandFunction(other);
    demandFunction(into);
    draft.becomeMeet(functions[one], functions[other]);
    return settle(into);
  }

  public int join(int one, int other, int into) throws IndexOutOfBoundsException {
    demandFunction(one);
    demandFunction(other);
    demandFunction(into);
    draft.becomeJoint(functions[one], functions[other]);
    return settle(into);
  }

  public int above(int one, int other, int into) throws IndexOutOfBoundsException {
    demandFunction(one);
    demandFunction(other);
    demandFunction(into);
    draft.becomeAbove(functions[one], functions[other]);
    return settle(into);
  }

  public int choose(int one, int other, int third, int into) throws IndexOutOfBoundsException {
    demandFunction(one);
    demandFunction(other);
    demandFunction(third);
    demandFunction(into);
    draft.becomeChosen(functions[one], functions[other], functions[third]);
    return settle(into);
  }

  // ---- asking

  public int at(int one, int place) throws IndexOutOfBoundsException {
    demandFunction(one);
    demandPlace(place);
    return functions[one].valueAt(place);
  }

  public int steps(int one) throws IndexOutOfBoundsException {
    demandFunction(one);
    return functions[one].stepCount();
  }

  public int step(int one, int k, boolean isBack) throws IndexOutOfBoundsException {
    demandFunction(one);
    int count = functions[one].stepCount();
    if (k < 0 || k >= count) {
      return NONE;
    }
    return functions[one].stepOfRank(isBack ? count - 1 - k : k);
  }

  public int near(int one, int place, int what)
      throws IndexOutOfBoundsException, IllegalArgumentException {
    demandFunction(one);
    demandArgument(what >= 0 && what <= 3);
    return nearest(functions[one], place, what);
  }

  public String nearValue(int one, int place, int what)
      throws IndexOutOfBoundsException, IllegalArgumentException {
    demandFunction(one);
    demandArgument(what >= 0 && what <= 3);
    int found = nearest(functions[one], place, what);
    return found == NONE ? "" : digits(functions[one].valueAt(found));
  }

  public boolean isStep(int one, int place) throws IndexOutOfBoundsException {
    demandFunction(one);
    return functions[one].begins(place);
  }

  public int stepOr(int one, int place, int otherwise) throws IndexOutOfBoundsException {
    demandFunction(one);
    return functions[one].begins(place) ? functions[one].valueAt(place) : otherwise;
  }

  public boolean has(int one, int value) throws IndexOutOfBoundsException {
    demandFunction(one);
    return functions[one].firstWith(value) != NONE;
  }

  public int where(int one, int value) throws IndexOutOfBoundsException {
    demandFunction(one);
    return functions[one].firstWith(value);
  }

  public int area(int one, int from, int to) throws IndexOutOfBoundsException {
    demandFunction(one);
    demandSpan(from, to);
    return functions[one].areaOver(from, to);
  }

  public String extreme(int one, int from, int to, boolean isGreatest)
      throws IndexOutOfBoundsException {
    demandFunction(one);
    demandSpan(from, to);
    if (from == to) {
      return "";
    }
    return digits(functions[one].extremeOver(from, to, isGreatest));
  }

  public int between(int one, int from, int to, boolean isWith, boolean isToo)
      throws IndexOutOfBoundsException {
    demandFunction(one);
    demandIndex(from <= to);
    return functions[one].countBetween(from, to, isWith, isToo);
  }

  public int side(int one, int place, boolean isBelow, boolean isWith)
      throws IndexOutOfBoundsException {
    demandFunction(one);
    // The outer end is ahead of all places, or behind them: no step there can count.
    if (isBelow) {
      return functions[one].countBetween(-1, place, false, isWith);
    }
    return functions[one].countBetween(place, PLACES, isWith, false);
  }

  public int edge(int one, int from, int to, boolean isLast) throws IndexOutOfBoundsException {
    demandFunction(one);
    demandSpan(from, to);
    int found =
        isLast ? functions[one].lastBelow(to, false) : functions[one].firstAbove(from, true);
    return found >= from && found < to ? found : NONE;
  }

  public int stretch(int one, int place, boolean isEnd) throws IndexOutOfBoundsException {
    demandFunction(one);
    demandPlace(place);
    return isEnd ? functions[one].endOf(place) - 1 : functions[one].lastBelow(place, true);
  }

  public boolean areSame(int one, int other) throws IndexOutOfBoundsException {
    demandFunction(one);
    demandFunction(other);
    return functions[one].isSameAs(functions[other]);
  }

  public boolean areSameIn(int one, int other, int from, int to) throws IndexOutOfBoundsException {
    demandFunction(one);
    demandFunction(other);
    demandSpan(from, to);
    return functions[one].firstUnlike(functions[other], from, to) == NONE;
  }

  public int differ(int one, int other) throws IndexOutOfBoundsException {
    demandFunction(one);
    demandFunction(other);
    return functions[one].firstUnlike(functions[other], 0, PLACES);
  }

  public boolean isBelow(int one, int other) throws IndexOutOfBoundsException {
    demandFunction(one);
    demandFunction(other);
    return functions[one].isNowhereAbove(functions[other]);
  }

  public int code(int one) throws IndexOutOfBoundsException {
    demandFunction(one);
    return functions[one].codeNumber();
  }

  public String text(int one) throws IndexOutOfBoundsException {
    demandFunction(one);
    functions[one].writeSigns();
    return functions[one].signsAsText();
  }

  // ---- the walk

  public int walk(int one) throws IndexOutOfBoundsException {
    demandFunction(one);
    walked = one;
    walkPlace = NONE;
    return functions[one].stepCount();
  }

  public int goOn() {
    if (walked == NONE) {
      refusals++;
      return REFUSED;
    }
    int next = functions[walked].firstAbove(walkPlace, false);
    if (next != NONE) {
      walkPlace = next;
    }
    return next;
  }

  public String here() {
    if (walked == NONE || walkPlace == NONE) {
      return "";
    }
    return digits(functions[walked].valueAt(walkPlace));
  }

  // ---- the house

  public int knock() {
    knocks++;
    return knocks;
  }

  public int house(int what) throws IllegalArgumentException {
    demandArgument(what >= 0 && what <= 4);
    switch (what) {
      case 0:
        return stepsOfAll();
      case 1:
        return areaOfAll();
      case 2:
        return refusals;
      case 3:
        return knocks;
      default:
        return walked == NONE ? 0 : 1;
    }
  }

  public boolean isSound() {
    for (int one = 0; one < FUNCTIONS; one++) {
      if (!soundness.holdsOf(functions[one])) {
        return false;
      }
      // The texts of two are compared later on, so each is written once here.
      functions[one].writeSigns();
    }
    for (int one = 0; one < FUNCTIONS; one++) {
      for (int other = 0; other < FUNCTIONS; other++) {
        if (!soundness.holdsOfTwo(functions[one], functions[other]) || !areTriosSound(one, other)) {
          return false;
        }
      }
    }
    return true;
  }

  public long digest() {
    long d = 7844;
    for (int what = 0; what <= 4; what++) {
      d = mix(d, house(what));
    }
    for (int one = 0; one < FUNCTIONS; one++) {
      d = mixFunction(d, one);
    }
    for (int one = 0; one < FUNCTIONS; one++) {
      for (int other = 0; other < FUNCTIONS; other++) {
        d = mix(d, areSame(one, other) ? 1 : 0);
        d = mix(d, differ(one, other));
        d = mix(d, isBelow(one, other) ? 1 : 0);
      }
    }
    return mix(d, isSound() ? 1 : 0);
  }

  // ---- what a call demands

  private static void demandFunction(int one) {
    if (one < 0 || one >= FUNCTIONS) {
      throw new IndexOutOfBoundsException("no such function");
    }
  }

  private static void demandPlace(int place) {
    if (place < 0 || place >= PLACES) {
      throw new IndexOutOfBoundsException("no such place");
    }
  }

  private static void demandSpan(int from, int to) {
    if (from < 0 || to > PLACES || from > to) {
      throw new IndexOutOfBoundsException("no such span");
    }
  }

  private static void demandIndex(boolean isLet) {
    if (!isLet) {
      throw new IndexOutOfBoundsException("the end is less than the begin");
    }
  }

  private static void demandValue(int value) {
    if (value < -GREATEST || value > GREATEST) {
      throw new IllegalArgumentException("not -9999 to 9999");
    }
  }

  private static void demandArgument(boolean isLet) {
    if (!isLet) {
      throw new IllegalArgumentException("outside what is let");
    }
  }

  // ---- how an act ends

  /** The function becomes what the draft holds, unless that is REFUSED. */
  private int settle(int into) {
    if (!draft.isWithinLimits()) {
      return refuse(into);
    }
    loseWalk(into);
    functions[into].take(draft);
    return functions[into].stepCount();
  }

  /** An act that might have changed a function loses the walk over it, though it is REFUSED. */
  private int refuse(int one) {
    loseWalk(one);
    refusals++;
    return REFUSED;
  }

  private void loseWalk(int one) {
    if (walked == one) {
      walked = NONE;
      walkPlace = NONE;
    }
  }

  private void dropAt(int one, int gone) {
    for (int place = 0; place < PLACES; place++) {
      leaving[place] = place == gone;
    }
    letGo(one);
  }

  /** The steps at the leaving places go; answers how many these are. */
  private int letGo(int one) {
    int gone = draft.becomeWithout(functions[one], leaving);
    settle(one);
    return gone;
  }

  private void giveStretch(int one, int place, int value) {
    Row row = functions[one];
    draft.take(row);
    draft.fill(row.lastBelow(place, true), row.endOf(place), value);
    settle(one);
  }

  // ---- what is read off

  private static int nearest(Row row, int place, int what) {
    switch (what) {
      case 0:
        return row.lastBelow(place, false);
      case 1:
        return row.lastBelow(place, true);
      case 2:
        return row.firstAbove(place, true);
      default:
        return row.firstAbove(place, false);
    }
  }

  private static String digits(int number) {
    StringBuilder signs = new StringBuilder();
    signs.append(number);
    return signs.toString();
  }

  private int stepsOfAll() {
    int count = 0;
    for (int one = 0; one < FUNCTIONS; one++) {
      count += functions[one].stepCount();
    }
    return count;
  }

  private int areaOfAll() {
    int area = 0;
    for (int one = 0; one < FUNCTIONS; one++) {
      area += functions[one].areaOver(0, PLACES);
    }
    return area;
  }

  private boolean areTriosSound(int one, int other) {
    for (int third = 0; third < FUNCTIONS; third++) {
      if (!Soundness.holdsOfThree(functions[one], functions[other], functions[third])) {
        return false;
      }
    }
    return true;
  }

  private static long mix(long d, long v) {
    return d * 31 + v;
  }

  private long mixFunction(long before, int one) {
    Row row = functions[one];
    long d = mix(before, row.stepCount());
    for (int place = 0; place < PLACES; place++) {
      if (row.begins(place)) {
        d = mix(d, place);
        d = mix(d, row.valueAt(place));
      }
    }
    d = mix(d, row.codeNumber());
    row.writeSigns();
    d = mix(d, row.signCount());
    d = mix(d, row.areaOver(0, 200));
    d = mix(d, row.areaOver(50, 150));
    for (int what = 0; what <= 3; what++) {
      d = mix(d, nearest(row, 100, what));
    }
    return mix(d, row.firstWith(0));
  }

  /** A plain row of values, one at each place: it knows nothing of limits but to tell of them. */
  private static final class Row {
    private final int[] values = new int[PLACES];

    /** The text of the row as it was last written: kept, so that no call makes a new one. */
    private final StringBuilder signs = new StringBuilder();

    int valueAt(int place) {
      return place >= 0 && place < PLACES ? values[place] : 0;
    }

    // -- it changes (spans lie within the places)

    void take(Row other) {
      takeOver(0, PLACES, other);
    }

    void takeOver(int from, int to, Row other) {
      for (int place = from; place < to; place++) {
        values[place] = other.values[place];
      }
    }

    void fill(int from, int to, int value) {
      for (int place = from; place < to; place++) {
        values[place] = value;
      }
    }

    void increase(int from, int to, int by) {
      for (int place = from; place < to; place++) {
        values[place] += by;
      }
    }

    void pushUp(int from, int to, int value) {
      for (int place = from; place < to; place++) {
        values[place] = Math.max(values[place], value);
      }
    }

    void pushDown(int from, int to, int value) {
      for (int place = from; place < to; place++) {
        values[place] = Math.min(values[place], value);
      }
    }

    void multiply(int by) {
      for (int place = 0; place < PLACES; place++) {
        values[place] *= by;
      }
    }

    void becomeShifted(Row old, int by, int value) {
      for (int place = 0; place < PLACES; place++) {
        int source = place - by;
        values[place] = source >= 0 && source < PLACES ? old.values[source] : value;
      }
    }

    void becomeMirrored(Row old) {
      for (int place = 0; place < PLACES; place++) {
        values[place] = old.values[PLACES - 1 - place];
      }
    }

    /** Answers how many steps of the old row are at the leaving places, but for the place 0. */
    int becomeWithout(Row old, boolean[] leaving) {
      int gone = 0;
      int kept = old.values[0];
      for (int place = 0; place < PLACES; place++) {
        if (place > 0 && old.begins(place)) {
          if (leaving[place]) {
            gone++;
          } else {
            kept = old.values[place];
          }
        }
        values[place] = kept;
      }
      return gone;
    }

    void becomeSum(Row one, Row other) {
      for (int place = 0; place < PLACES; place++) {
        values[place] = one.values[place] + other.values[place];
      }
    }

    void becomeRest(Row one, Row other) {
      for (int place = 0; place < PLACES; place++) {
        values[place] = one.values[place] - other.values[place];
      }
    }

    void becomeMeet(Row one, Row other) {
      for (int place = 0; place < PLACES; place++) {
        values[place] = Math.min(one.values[place], other.values[place]);
      }
    }

    void becomeJoint(Row one, Row other) {
      for (int place = 0; place < PLACES; place++) {
        values[place] = Math.max(one.values[place], other.values[place]);
      }
    }

    void becomeAbove(Row one, Row other) {
      for (int place = 0; place < PLACES; place++) {
        values[place] = one.values[place] > other.values[place] ? 1 : 0;
      }
    }

    void becomeChosen(Row one, Row other, Row third) {
      for (int place = 0; place < PLACES; place++) {
        values[place] = third.values[place] > 0 ? one.values[place] : other.values[place];
      }
    }

    // -- its steps

    /** Whether a step is at that place, which may be any number. */
    boolean begins(int place) {
      if (place <= 0 || place >= PLACES) {
        return place == 0;
      }
      return values[place] != values[place - 1];
    }

    int stepCount() {
      int count = 0;
      for (int place = 0; place < PLACES; place++) {
        if (begins(place)) {
          count++;
        }
      }
      return count;
    }

    int stepOfRank(int rank) {
      int ahead = 0;
      for (int place = 0; place < PLACES; place++) {
        if (begins(place)) {
          if (ahead == rank) {
            return place;
          }
          ahead++;
        }
      }
      return NONE;
    }

    /** The greatest step below a limit (or at it, if that counts); any number is let. */
    int lastBelow(int limit, boolean isWith) {
      for (int place = PLACES - 1; place >= 0; place--) {
        if ((place < limit || isWith && place == limit) && begins(place)) {
          return place;
        }
      }
      return NONE;
    }

    /** The least step above a limit (or at it, if that counts); any number is let. */
    int firstAbove(int limit, boolean isWith) {
      for (int place = 0; place < PLACES; place++) {
        if ((place > limit || isWith && place == limit) && begins(place)) {
          return place;
        }
      }
      return NONE;
    }

    /** Where the stretch of a place ends (not in it). */
    int endOf(int place) {
      int next = firstAbove(place, false);
      return next == NONE ? PLACES : next;
    }

    int countBetween(int from, int to, boolean isWith, boolean isToo) {
      int count = 0;
      for (int place = 0; place < PLACES; place++) {
        boolean isPastBegin = place > from || isWith && place == from;
        boolean isAheadOfEnd = place < to || isToo && place == to;
        if (isPastBegin && isAheadOfEnd && begins(place)) {
          count++;
        }
      }
      return count;
    }

    // -- its values

    boolean areValuesLet() {
      for (int place = 0; place < PLACES; place++) {
        if (values[place] < -GREATEST || values[place] > GREATEST) {
          return false;
        }
      }
      return true;
    }

    boolean isWithinLimits() {
      return areValuesLet() && stepCount() <= MOST_STEPS;
    }

    int firstWith(int value) {
      for (int place = 0; place < PLACES; place++) {
        if (values[place] == value) {
          return place;
        }
      }
      return NONE;
    }

    int areaOver(int from, int to) {
      int area = 0;
      for (int place = from; place < to; place++) {
        area += values[place];
      }
      return area;
    }

    int extremeOver(int from, int to, boolean isGreatest) {
      int found = valueAt(from);
      for (int place = from; place < to; place++) {
        int value = values[place];
        found = isGreatest ? Math.max(found, value) : Math.min(found, value);
      }
      return found;
    }

    int firstUnlike(Row other, int from, int to) {
      for (int place = from; place < to; place++) {
        if (values[place] != other.values[place]) {
          return place;
        }
      }
      return NONE;
    }

    boolean isSameAs(Row other) {
      return firstUnlike(other, 0, PLACES) == NONE;
    }

    boolean isNowhereAbove(Row other) {
      for (int place = 0; place < PLACES; place++) {
        if (values[place] > other.values[place]) {
          return false;
        }
      }
      return true;
    }

    // -- what it is told by

    int codeNumber() {
      int code = 0;
      for (int place = 0; place < PLACES; place++) {
        if (begins(place)) {
          code += place ^ values[place];
        }
      }
      return code;
    }

    void writeSigns() {
      signs.setLength(0);
      signs.append('{');
      for (int place = 0; place < PLACES; place++) {
        if (begins(place)) {
          if (place > 0) {
            signs.append(", ");
          }
          signs.append(place);
          signs.append('=');
          signs.append(values[place]);
        }
      }
      signs.append('}');
    }

    int signCount() {
      return signs.length();
    }

    String signsAsText() {
      return signs.toString();
    }

    boolean readsAs(Row other) {
      if (signs.length() != other.signs.length()) {
        return false;
      }
      for (int k = 0; k < signs.length() && k < other.signs.length(); k++) {
        if (signs.charAt(k) != other.signs.charAt(k)) {
          return false;
        }
      }
      return true;
    }
  }

  /** What is so of every one, two and three functions that are sound; it changes none of them. */
  private static final class Soundness {
    private static final int CUT = 77;
    private static final int SPLICE_FROM = 40;
    private static final int SPLICE_TO = 120;

    private final Row made = new Row();
    private final Row madeOfThat = new Row();
    private final Row met = new Row();
    private final Row joined = new Row();

    boolean holdsOf(Row row) {
      return areStepsFewest(row)
          && row.areValuesLet()
          && row.areaOver(0, CUT) + row.areaOver(CUT, PLACES) == row.areaOver(0, PLACES)
          && isMirrorUndone(row)
          && isOppositeArea(row);
    }

    /** The texts of both have been written ahead of this. */
    boolean holdsOfTwo(Row one, Row other) {
      met.becomeMeet(one, other);
      joined.becomeJoint(one, other);
      return areToldAlike(one, other)
          && isSumKept(one, other)
          && isSequenceFree(one, other)
          && met.isNowhereAbove(one)
          && met.isNowhereAbove(other)
          && one.isNowhereAbove(joined)
          && other.isNowhereAbove(joined)
          && isSpliceKept(one, other);
    }

    static boolean holdsOfThree(Row one, Row other, Row third) {
      for (int place = 0; place < PLACES; place++) {
        int first = one.valueAt(place);
        int second = other.valueAt(place);
        int last = third.valueAt(place);
        int whole = Math.min(first, Math.max(second, last));
        if (whole != Math.max(Math.min(first, second), Math.min(first, last))) {
          return false;
        }
      }
      return true;
    }

    private static boolean areStepsFewest(Row row) {
      if (row.stepOfRank(0) != 0) {
        return false;
      }
      int ahead = row.valueAt(0);
      for (int place = 1; place < PLACES; place++) {
        if (row.begins(place)) {
          if (row.valueAt(place) == ahead) {
            return false;
          }
          ahead = row.valueAt(place);
        }
      }
      return true;
    }

    private boolean isMirrorUndone(Row row) {
      made.becomeMirrored(row);
      madeOfThat.becomeMirrored(made);
      return madeOfThat.isSameAs(row);
    }

    private boolean isOppositeArea(Row row) {
      made.take(row);
      made.multiply(-1);
      return made.areaOver(0, PLACES) == -row.areaOver(0, PLACES);
    }

    private static boolean areToldAlike(Row one, Row other) {
      boolean areSame = one.isSameAs(other);
      if (one.readsAs(other) != areSame) {
        return false;
      }
      if (!areSame) {
        return true;
      }
      return one.codeNumber() == other.codeNumber() && one.firstUnlike(other, 0, PLACES) == NONE;
    }

    private boolean isSumKept(Row one, Row other) {
      made.becomeSum(one, other);
      madeOfThat.becomeSum(met, joined);
      return made.areaOver(0, PLACES) == one.areaOver(0, PLACES) + other.areaOver(0, PLACES)
          && made.isSameAs(madeOfThat);
    }

    private boolean isSequenceFree(Row one, Row other) {
      made.becomeMeet(other, one);
      madeOfThat.becomeJoint(other, one);
      return made.isSameAs(met) && madeOfThat.isSameAs(joined);
    }

    private boolean isSpliceKept(Row one, Row other) {
      made.take(one);
      made.takeOver(SPLICE_FROM, SPLICE_TO, other);
      return made.firstUnlike(one, 0, SPLICE_FROM) == NONE
          && made.firstUnlike(other, SPLICE_FROM, SPLICE_TO) == NONE
          && made.firstUnlike(one, SPLICE_TO, PLACES) == NONE;
    }
  }
}
