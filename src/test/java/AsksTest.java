import java.io.IOException;

/** Promises 29 to 56: the calls that ask, the walk, and the house. */
public final class AsksTest extends Sentences {
  // ---- asking

  private static void promises29To33() {
    sentence(29, "Returns its VALUE there.", () -> {
      Stepfunctions x = made(TIPPED);
      int[][] rows = {{0, 1}, {1, 2}, {2, 3}, {196, 3}, {197, 4}, {198, 5}, {199, 6}};
      for (int[] row : rows) {
        due(row[1], x.at(0, row[0]));
      }
      x.set(0, 0, 200, -9);
      due(-9, x.at(0, 100));
      due(0, x.house(2));
    });
    sentence(30, "Returns how many STEPS it has.", () -> {
      Stepfunctions x = made(rungs(20), TIPPED);
      due(20, x.steps(0));
      due(6, x.steps(1));
      due(1, x.steps(2));
    });
    sentence(31, "Returns its PLACE; NONE without.", () -> {
      Stepfunctions x = made(rungs(20), TIPPED);
      due(0, x.step(0, 0, false));
      due(190, x.step(0, 19, false));
      due(NONE, x.step(0, 20, false));
      due(190, x.step(0, 0, true));
      due(0, x.step(0, 19, true));
      due(NONE, x.step(0, 20, true));
      due(199, x.step(1, 0, true));
      due(198, x.step(1, 1, true));
      due(1, x.step(1, 1, false));
      due(0, x.step(2, 0, true));
      due(NONE, x.step(2, 1, true));
      due(NONE, x.step(2, 1, false));
    });
    sentence(31, "- `k`: which STEP, from the first one (0) on", () -> {
      Stepfunctions x = made(STEPPED);
      for (int k : new int[] {-1, 4, MIN, MAX}) {
        due(NONE, x.step(0, k, false));
        due(NONE, x.step(0, k, true));
      }
    });
    sentence(31, "- `isBack`: whether from the last one (0) back", () -> {
      Stepfunctions x = made(STEPPED);
      int[] places = {0, 10, 20, 30};
      for (int k = 0; k < 4; k++) {
        due(places[k], x.step(0, k, false));
        due(places[3 - k], x.step(0, k, true));
      }
    });
    sentence(32, "0 the greatest STEP below it, 1 the greatest one up to it, 2 the least one from it on, 3 the least one above it", () -> {
      nearIs("{0=0}", 0, NONE, 0, 0, NONE);
      nearIs("{0=0}", 1, 0, 0, NONE, NONE);
      nearIs(STEPPED, 10, 0, 10, 10, 20);
      nearIs(STEPPED, 9, 0, 0, 10, 10);
      nearIs(STEPPED, 11, 10, 10, 20, 20);
      nearIs(STEPPED, 30, 20, 30, 30, NONE);
      nearIs(TIPPED, 1, 0, 1, 1, 2);
      nearIs(TIPPED, 198, 197, 198, 198, 199);
      nearIs(TIPPED, 199, 198, 199, 199, NONE);
    });
    sentence(32, "Returns that; NONE without.", () -> {
      nearIs(STEPPED, 0, NONE, 0, 0, 10);
      nearIs(STEPPED, 31, 30, 30, NONE, NONE);
    });
    sentence(32, "- `place`: any number", () -> {
      for (int place : new int[] {MIN, -9, -1}) {
        nearIs(TIPPED, place, NONE, NONE, 0, 0);
      }
      for (int place : new int[] {200, 201, MAX}) {
        nearIs(TIPPED, place, 199, 199, NONE, NONE);
      }
    });
    sentence(33, "Returns the VALUE of that STEP, as digits (\"-\" ahead of one below 0); \"\" without.", () -> {
      Stepfunctions x = made("{0=-9999, 10=0, 199=9999}");
      due("", x.nearValue(0, 0, 0));
      due("-9999", x.nearValue(0, 0, 1));
      due("-9999", x.nearValue(0, 10, 0));
      due("0", x.nearValue(0, 10, 1));
      due("0", x.nearValue(0, 10, 2));
      due("9999", x.nearValue(0, 10, 3));
      due("9999", x.nearValue(0, 199, 2));
      due("", x.nearValue(0, 199, 3));
    });
    sentence(33, "- `what`: as for near()", () -> {
      Stepfunctions x = made(STEPPED);
      due("0", x.nearValue(0, 10, 0));
      due("5", x.nearValue(0, 10, 1));
      due("5", x.nearValue(0, 10, 2));
      due("-3", x.nearValue(0, 10, 3));
    });
    sentence(33, "- `place`: any number", () -> {
      Stepfunctions x = made(TIPPED);
      for (int place : new int[] {MIN, -1}) {
        due("11", x.nearValue(0, place, 0) + x.nearValue(0, place, 1) + x.nearValue(0, place, 2) + x.nearValue(0, place, 3));
      }
      for (int place : new int[] {200, MAX}) {
        due("66", x.nearValue(0, place, 0) + x.nearValue(0, place, 1) + x.nearValue(0, place, 2) + x.nearValue(0, place, 3));
      }
    });
  }

  private static void nearIs(String text, int place, int... want) {
    Stepfunctions x = made(text);
    for (int what = 0; what <= 3; what++) {
      due(want[what], x.near(0, place, what));
      due(want[what] == NONE ? "" : "" + x.at(0, want[what]), x.nearValue(0, place, what));
    }
  }

  private static void promises34To39() {
    sentence(34, "Returns whether a STEP is there.", () -> {
      Stepfunctions x = made(TIPPED);
      for (int place = 0; place < 200; place++) {
        due(place <= 2 || place >= 197, x.isStep(0, place));
      }
    });
    sentence(34, "- `place`: any number", () -> {
      for (int place : new int[] {MIN, -1, 200, MAX}) {
        due(false, made(TIPPED).isStep(0, place));
      }
    });
    sentence(35, "Returns the VALUE of the STEP there; without one the other number.", () -> {
      Stepfunctions x = made(TIPPED);
      due(1, x.stepOr(0, 0, 77));
      due(6, x.stepOr(0, 199, 77));
      due(77, x.stepOr(0, 3, 77));
      due(3, x.stepOr(0, 3, 3));
      due(0, x.stepOr(1, 0, 77));
    });
    sentence(35, "- `place`: any number", () -> {
      for (int place : new int[] {MIN, -1, 200, MAX}) {
        due(77, made(TIPPED).stepOr(0, place, 77));
      }
    });
    sentence(35, "- `otherwise`: any number", () -> {
      for (int otherwise : new int[] {MIN, -10000, -9, -1, 10000, MAX}) {
        due(otherwise, made(TIPPED).stepOr(0, 100, otherwise));
        due(3, made(TIPPED).stepOr(0, 2, otherwise));
      }
    });
    sentence(36, "Returns whether it has that VALUE somewhere.", () -> {
      Stepfunctions x = made("{0=-9999, 1=0, 199=9999}");
      due(true, x.has(0, -9999));
      due(true, x.has(0, 0));
      due(true, x.has(0, 9999));
      due(false, x.has(0, 1));
    });
    sentence(36, "- `value`: any number", () -> {
      for (int value : new int[] {MIN, -10000, -9, -1, 10000, MAX}) {
        due(false, made(TIPPED).has(0, value));
      }
    });
    sentence(37, "Returns the first PLACE that has that VALUE; NONE without.", () -> {
      Stepfunctions x = made("{0=1, 10=2, 20=1, 199=2}", "{0=0, 199=-9999}");
      due(0, x.where(0, 1));
      due(10, x.where(0, 2));
      due(NONE, x.where(0, 3));
      due(199, x.where(1, -9999));
      due(0, x.where(1, 0));
    });
    sentence(37, "- `value`: any number", () -> {
      for (int value : new int[] {MIN, -10000, -9, -1, 10000, MAX}) {
        due(NONE, made(TIPPED).where(0, value));
      }
    });
    sentence(38, "Returns its AREA over that.", () -> {
      Stepfunctions x = made(steps(0, 10, 20, 9999, -9999), STEPPED);
      due(0, x.area(0, 0, 200));
      due(9999, x.area(0, 0, 1));
      due(-9999, x.area(0, 199, 200));
      due(0, x.area(0, 9, 11));
      due(0, x.area(0, 0, 0));
      due(0, x.area(0, 200, 200));
      due(5 - 3, x.area(1, 19, 21));
      due(50 - 30, x.area(1, 0, 200));
    });
    sentence(38, "- `from`: where a SPAN begins - `to`: where it ends (not in it)", () -> {
      due(0, made(STEPPED).area(0, 0, 10));
      due(5, made(STEPPED).area(0, 0, 11));
      due(5, made(STEPPED).area(0, 19, 20));
      due(50, made(STEPPED).area(0, 10, 20));
      due(45, made(STEPPED).area(0, 11, 20));
    });
    sentence(39, "Returns that of the SPAN, as digits (\"-\" ahead of one below 0); \"\" of an empty one.", () -> {
      Stepfunctions x = made("{0=-9999, 1=0, 199=9999}");
      due("-9999", x.extreme(0, 0, 1, true));
      due("-9999", x.extreme(0, 0, 200, false));
      due("9999", x.extreme(0, 0, 200, true));
      due("9999", x.extreme(0, 199, 200, false));
      due("0", x.extreme(0, 0, 199, true));
      due("0", x.extreme(0, 1, 200, false));
      for (int at : new int[] {0, 1, 100, 199, 200}) {
        due("", x.extreme(0, at, at, true));
        due("", x.extreme(0, at, at, false));
      }
    });
    sentence(39, "- `from`: where a SPAN begins - `to`: where it ends (not in it)", () -> {
      due("0", made(STEPPED).extreme(0, 0, 10, true));
      due("5", made(STEPPED).extreme(0, 0, 11, true));
      due("0", made(STEPPED).extreme(0, 9, 11, false));
      due("5", made(STEPPED).extreme(0, 10, 11, false));
    });
    sentence(39, "- `isGreatest`: whether the greatest VALUE, otherwise the least", () -> {
      Stepfunctions x = made(STEPPED);
      due("5", x.extreme(0, 0, 200, true));
      due("-3", x.extreme(0, 0, 200, false));
      due("5", x.extreme(0, 19, 21, true));
      due("-3", x.extreme(0, 19, 21, false));
      due("5", x.extreme(0, 15, 16, false));
    });
  }

  private static void promises40To43() {
    sentence(40, "Returns how many STEPS lie between, with those at the ends that count (where from is to: one there, just if both count).", () -> {
      betweenIs(10, 20, 0, 1, 1, 2);
      betweenIs(0, 30, 2, 3, 3, 4);
      betweenIs(0, 1, 0, 1, 0, 1);
      betweenIs(10, 11, 0, 1, 0, 1);
      betweenIs(9, 10, 0, 0, 1, 1);
      betweenIs(11, 19, 0, 0, 0, 0);
      betweenIs(0, 0, 0, 0, 0, 1);
      betweenIs(10, 10, 0, 0, 0, 1);
      betweenIs(30, 30, 0, 0, 0, 1);
      betweenIs(11, 11, 0, 0, 0, 0);
      Stepfunctions x = made(TIPPED, rungs(20));
      due(0, x.between(0, 198, 199, false, false));
      due(2, x.between(0, 198, 199, true, true));
      due(1, x.between(0, 199, 199, true, true));
      due(18, x.between(1, 0, 190, false, false));
      due(20, x.between(1, 0, 190, true, true));
    });
    sentence(40, "- `from`: a number", () -> {
      betweenIs(-1, 10, 1, 1, 2, 2);
      betweenIs(MIN, 0, 0, 0, 1, 1);
      betweenIs(MIN, MIN, 0, 0, 0, 0);
      betweenIs(MAX, MAX, 0, 0, 0, 0);
      betweenIs(MIN, MAX, 4, 4, 4, 4);
      betweenIs(-1, -1, 0, 0, 0, 0);
    });
    sentence(40, "- `to`: a number", () -> {
      betweenIs(30, MAX, 0, 1, 0, 1);
      betweenIs(20, 200, 1, 2, 1, 2);
      betweenIs(31, MAX, 0, 0, 0, 0);
      betweenIs(200, 200, 0, 0, 0, 0);
      due(IndexOutOfBoundsException.class, thrownBy(() -> made(STEPPED).between(0, 1, 0, true, true)));
    });
    sentence(40, "- `isWith`: whether a STEP at from counts - `isToo`: whether a STEP at to counts", () -> {
      betweenIs(10, 30, 1, 2, 2, 3);
      betweenIs(10, 31, 2, 3, 2, 3);
      betweenIs(9, 30, 2, 2, 3, 3);
      betweenIs(9, 31, 3, 3, 3, 3);
    });
    sentence(41, "- `isBelow`: whether STEPS up to there, otherwise from there on - `isWith`: whether one at that number counts", () -> {
      sideIs(20, 2, 3, 1, 2);
      sideIs(19, 2, 2, 2, 2);
      sideIs(21, 3, 3, 1, 1);
    });
    sentence(41, "Returns how many STEPS there are on that side.", () -> {
      sideIs(10, 1, 2, 2, 3);
      sideIs(0, 0, 1, 3, 4);
      sideIs(30, 3, 4, 0, 1);
      sideIs(15, 2, 2, 2, 2);
      sideIs(199, 4, 4, 0, 0);
      Stepfunctions x = made(TIPPED, rungs(20));
      due(5, x.side(0, 199, true, false));
      due(6, x.side(0, 199, true, true));
      due(1, x.side(0, 199, false, true));
      due(20, x.side(1, 0, false, true));
    });
    sentence(41, "- `place`: any number", () -> {
      sideIs(-1, 0, 0, 4, 4);
      sideIs(MIN, 0, 0, 4, 4);
      sideIs(200, 4, 4, 0, 0);
      sideIs(MAX, 4, 4, 0, 0);
    });
    sentence(42, "Returns that; NONE without.", () -> {
      Stepfunctions x = made(STEPPED, TIPPED);
      int[][] rows = {
        {0, 200, 0, 30}, {0, 1, 0, 0}, {1, 200, 10, 30}, {10, 30, 10, 20}, {11, 20, NONE, NONE},
        {31, 200, NONE, NONE}, {30, 200, 30, 30}, {0, 0, NONE, NONE}, {10, 10, NONE, NONE},
        {200, 200, NONE, NONE}
      };
      for (int[] row : rows) {
        due(row[2], x.edge(0, row[0], row[1], false));
        due(row[3], x.edge(0, row[0], row[1], true));
      }
      due(199, x.edge(1, 199, 200, false));
      due(198, x.edge(1, 0, 199, true));
      due(1, x.edge(1, 1, 2, true));
    });
    sentence(42, "- `from`: where a SPAN begins - `to`: where it ends (not in it)", () -> {
      due(NONE, made(STEPPED).edge(0, 1, 10, true));
      due(10, made(STEPPED).edge(0, 1, 11, true));
      due(NONE, made(STEPPED).edge(0, 1, 10, false));
      due(10, made(STEPPED).edge(0, 1, 11, false));
      due(10, made(STEPPED).edge(0, 10, 11, true));
      due(20, made(STEPPED).edge(0, 11, 21, false));
    });
    sentence(42, "- `isLast`: whether the last STEP in it, otherwise the first one", () -> {
      Stepfunctions x = made(TIPPED);
      due(199, x.edge(0, 0, 200, true));
      due(0, x.edge(0, 0, 200, false));
      due(2, x.edge(0, 1, 197, true));
      due(1, x.edge(0, 1, 197, false));
    });
    sentence(43, "Returns the first PLACE of the STRETCH of that PLACE; with isEnd its last one.", () -> {
      Stepfunctions x = made(STEPPED, TIPPED);
      int[][] rows = {
        {0, 0, 0, 9}, {0, 9, 0, 9}, {0, 10, 10, 19}, {0, 19, 10, 19}, {0, 30, 30, 199}, {0, 199, 30, 199},
        {1, 0, 0, 0}, {1, 1, 1, 1}, {1, 100, 2, 196}, {1, 198, 198, 198}, {1, 199, 199, 199},
        {2, 0, 0, 199}, {2, 199, 0, 199}
      };
      for (int[] row : rows) {
        due(row[2], x.stretch(row[0], row[1], false));
        due(row[3], x.stretch(row[0], row[1], true));
      }
    });
  }

  private static void isEndOfAStretch() {
    sentence(43, "- `isEnd`: whether its end, otherwise its begin", () -> {
      Stepfunctions x = made(STEPPED);
      due(19, x.stretch(0, 10, true));
      due(10, x.stretch(0, 19, false));
      due(199, x.stretch(0, 199, true));
      due(0, x.stretch(0, 0, false));
    });
  }

  /** How many of STEPPED lie between: no end counts, from does, to does, both do. */
  private static void betweenIs(int from, int to, int none, int with, int too, int both) {
    Stepfunctions x = made(STEPPED);
    due(none, x.between(0, from, to, false, false));
    due(with, x.between(0, from, to, true, false));
    due(too, x.between(0, from, to, false, true));
    due(both, x.between(0, from, to, true, true));
  }

  /** How many of STEPPED are up to there, without and with one there; from there on, the same. */
  private static void sideIs(int place, int below, int upTo, int above, int from) {
    Stepfunctions x = made(STEPPED);
    due(below, x.side(0, place, true, false));
    due(upTo, x.side(0, place, true, true));
    due(above, x.side(0, place, false, false));
    due(from, x.side(0, place, false, true));
  }

  private static void promises44To49() {
    sentence(44, "Returns whether both have the same VALUE at each PLACE.", () -> {
      Stepfunctions x = made(TIPPED, TIPPED, rungs(20), rungs(20));
      due(true, x.areSame(0, 1));
      due(true, x.areSame(2, 3));
      due(false, x.areSame(0, 2));
      x.lift(1, 199, 7);
      due(false, x.areSame(0, 1));
      x.lift(3, 0, 7);
      due(false, x.areSame(2, 3));
    });
    sentence(44, "- `other`: a FUNCTION, or the same", () -> due(true, made(TIPPED).areSame(0, 0)));
    sentence(45, "Returns whether both have the same VALUE at each PLACE of that.", () -> {
      Stepfunctions x = made(STEPPED, "{0=0, 199=1}");
      due(true, x.areSameIn(0, 1, 0, 10));
      due(false, x.areSameIn(0, 1, 9, 11));
      due(false, x.areSameIn(0, 1, 29, 30));
      due(true, x.areSameIn(0, 1, 30, 199));
      due(false, x.areSameIn(0, 1, 199, 200));
      for (int at : new int[] {0, 15, 199, 200}) {
        due(true, x.areSameIn(0, 1, at, at));
      }
    });
    sentence(45, "- `other`: a FUNCTION, or the same", () -> due(true, made(TIPPED).areSameIn(0, 0, 0, 200)));
    sentence(45, "- `from`: where a SPAN begins - `to`: where it ends (not in it)", () -> {
      due(true, made(STEPPED).areSameIn(0, 1, 0, 10));
      due(false, made(STEPPED).areSameIn(0, 1, 0, 11));
      due(true, made(STEPPED).areSameIn(0, 1, 30, 200));
      due(false, made(STEPPED).areSameIn(0, 1, 29, 200));
    });
    sentence(46, "Returns the first PLACE at which they have unlike VALUES; NONE without.", () -> {
      Stepfunctions x = made(TIPPED, TIPPED, STEPPED);
      due(NONE, x.differ(0, 1));
      due(10, x.differ(2, 3));
      due(0, x.differ(0, 2));
      x.lift(1, 199, 7);
      due(199, x.differ(0, 1));
      due(199, x.differ(1, 0));
    });
    sentence(46, "- `other`: a FUNCTION, or the same", () -> due(NONE, made(TIPPED).differ(0, 0)));
    sentence(47, "Returns whether the first one is nowhere greater than the other one.", () -> {
      Stepfunctions x = made(TIPPED, TIPPED, "{0=-9999}", "{0=9999}");
      due(true, x.isBelow(0, 1));
      due(true, x.isBelow(2, 3));
      due(false, x.isBelow(3, 2));
      x.lift(1, 199, 5);
      due(false, x.isBelow(0, 1));
      due(true, x.isBelow(1, 0));
      x.lift(1, 0, 2);
      due(false, x.isBelow(1, 0));
    });
    sentence(47, "- `other`: a FUNCTION, or the same", () -> due(true, made(TIPPED).isBelow(0, 0)));
    sentence(48, "Returns its CODE.", () -> {
      due(1 + 3 + 1 + (197 ^ 4) + (198 ^ 5) + (199 ^ 6), made(TIPPED).code(0));
      due((10 ^ 5) + (20 ^ -3) + 30, made(STEPPED).code(0));
    });
    sentence(49, "Returns it as a text.", () -> {
      due(TIPPED, made(TIPPED).text(0));
      due("{0=0}", new Stepfunctions().text(3));
    });
  }

  // ---- the walk and the house

  private static void promises50To52() {
    sentence(50, "A WALK begins (one that there is ends).", () -> {
      Stepfunctions x = made(STEPPED, "{0=7, 50=8}");
      x.walk(0);
      x.goOn();
      x.goOn();
      due(2, x.walk(1));
      due("", x.here());
      due(0, x.goOn());
      due("7", x.here());
      due(4, x.walk(0));
      due("", x.here());
      due(0, x.goOn());
      due("0", x.here());
      due(1, x.house(4));
    });
    sentence(50, "- `one`: the FUNCTION over whose STEPS it goes", () -> {
      Stepfunctions x = made("{0=1, 11=0}", "{0=2, 12=0}", "{0=3, 13=0}", "{0=4, 14=0}");
      for (int one = 0; one < 4; one++) {
        due(2, x.walk(one));
        due(0, x.goOn());
        due("" + (one + 1), x.here());
        due(11 + one, x.goOn());
        due(NONE, x.goOn());
      }
    });
    sentence(51, "The WALK goes on.", () -> {
      Stepfunctions x = made(STEPPED);
      x.walk(0);
      String told = "";
      for (int k = 0; k < 4; k++) {
        x.step(0, 3, true);
        told += x.goOn() + "=" + x.here() + " ";
      }
      due("0=0 10=5 20=-3 30=0 ", told);
    });
    sentence(50, "Returns how many STEPS it will tell.", () -> {
      Stepfunctions x = made(rungs(20));
      due(20, x.walk(0));
      for (int k = 0; k < 20; k++) {
        due(10 * k, x.goOn());
      }
      due(NONE, x.goOn());
      due(1, x.walk(1));
      due(0, x.goOn());
      due(NONE, x.goOn());
    });
    sentence(51, "Returns the PLACE of the next STEP; NONE behind the last one; -9 without a WALK.", () -> {
      Stepfunctions x = made(TIPPED);
      refused(x, y -> y.goOn());
      x.walk(0);
      for (int place : new int[] {0, 1, 2, 197, 198, 199, NONE, NONE}) {
        due(place, x.goOn());
      }
      due(1, x.house(2));
      x.negate(0);
      refused(x, y -> y.goOn());
      refused(x, y -> y.goOn());
    });
    sentence(52, "Returns the VALUE of the STEP that the WALK told last, as digits (\"-\" ahead of one below 0); \"\" without a WALK, or ahead of its first one (behind the last one still that).", () -> {
      Stepfunctions x = made("{0=9999, 199=-9999}");
      due("", x.here());
      x.walk(0);
      due("", x.here());
      for (String value : new String[] {"9999", "-9999", "-9999", "-9999"}) {
        x.goOn();
        due(value, x.here());
      }
      x.walk(0);
      due("", x.here());
      x.goOn();
      x.add(0, 0, 0, 0);
      due("", x.here());
      due(0, x.house(2));
    });
  }

  private static void promises53To56() {
    sentence(53, "Knocks.", () -> {
      Stepfunctions x = made(STEPPED);
      x.walk(0);
      due(1, x.knock());
      due(1, x.house(3));
      due(0, x.house(2));
      due(1, x.house(4));
      due(STEPPED, x.text(0));
    });
    sentence(53, "Returns how often one knocked, with this.", () -> {
      Stepfunctions x = new Stepfunctions();
      for (int k = 1; k <= 512; k++) {
        due(k, x.knock());
      }
      due(1, new Stepfunctions().knock());
    });
    sentence(54, "0 how many STEPS all FUNCTIONS have, 1 their AREAS of all PLACES together, 2 how often REFUSED was told, 3 how often one knocked, 4 1 if there is a WALK, otherwise 0", () -> {
      String most = steps(0, 10, 20, 9999, 9998);
      Stepfunctions x = made(most, most, most, most);
      due(80, x.house(0));
      due(4 * 100 * (9999 + 9998), x.house(1));
      for (int one = 0; one < 4; one++) {
        due(20, x.flat(one, -9999));
      }
      due(4, x.house(0));
      due(-7999200, x.house(1));
      due(0, x.house(2));
      refused(x, y -> y.add(0, 0, 1, -1));
      due(1, x.house(2));
      due(0, x.house(3));
      x.knock();
      due(1, x.house(3));
      due(0, x.house(4));
      x.walk(3);
      due(1, x.house(4));
      x.goOn();
      x.goOn();
      due(1, x.house(4));
      x.flat(3, 0);
      due(0, x.house(4));
    });
    sentence(54, "Returns that.", () -> {
      Stepfunctions x = made(TIPPED, STEPPED);
      due(6 + 4 + 1 + 1, x.house(0));
      due(603 + 20, x.house(1));
      x.set(3, 0, 1, -623);
      due(0, x.house(1));
      for (int k = 1; k <= 3; k++) {
        refused(x, y -> y.dropStep(2, 0));
        due(k, x.house(2));
      }
    });
    sentence(55, "nothing is REFUSED here: the opposite, the SUM, what MEETS, the JOINT and what is spliced are meant as plain rows of VALUES, however great these are, and with any number of STEPS", () -> {
      Stepfunctions x = made(
          steps(0, 10, 20, 9999, -9999), behind(-9999, steps(3, 10, 19, 9999, -9999)),
          behind(9999, steps(5, 10, 19, -9999, 9999)), behind(9999, steps(77, 2, 19, 0, 9999)));
      x.walk(0);
      String before = texts(x);
      due(true, x.isSound());
      due(before, texts(x));
      due(0, x.house(2));
      due(1, x.house(4));
      x.copy(0, 1);
      x.flat(2, 9999);
      x.flat(3, -9999);
      due(true, x.isSound());
      due(true, new Stepfunctions().isSound());
    });
    sentence(56, "A number d starts with 7844; then d becomes d * 31 + v, which wraps around as a 64-bit integer", () -> {
      Stepfunctions x = made(TIPPED, STEPPED, rungs(20), "{0=-9999, 199=9999}");
      x.knock();
      x.goOn();
      x.walk(1);
      due(digestOf(x), x.digest());
      due(digestOf(x), x.digest());
    });
    sentence(56, "Returns d.", () -> {
      due(digestOf(new Stepfunctions()), new Stepfunctions().digest());
      Stepfunctions x = made(steps(0, 10, 20, 9999, -9999));
      refused(x, y -> y.scale(0, 2));
      due(digestOf(x), x.digest());
    });
    sentence(56, "(of a text how many signs it has; 1 if so, otherwise 0)", () -> {
      Stepfunctions x = made("{0=-9999, 100=9999}", "{0=-9999, 100=9999}");
      due(digestOf(x), x.digest());
      x.flat(1, 0);
      due(digestOf(x), x.digest());
    });
  }

  public static void main(String[] args) throws IOException {
    promises29To33();
    promises34To39();
    promises40To43();
    isEndOfAStretch();
    promises44To49();
    promises50To52();
    promises53To56();
    end(29, 56);
  }
}
