import java.io.IOException;

/** Promises 1 to 28: a new object, and the calls that change a function. */
public final class ActsTest extends Sentences {
  // ---- the promises of one function that changes

  private static void promises1To6() {
    sentence(1, "Creates four functions that are 0 everywhere, and no walk.", () -> {
      Stepfunctions x = new Stepfunctions();
      due("{0=0}{0=0}{0=0}{0=0}", texts(x));
      int[] house = {4, 0, 0, 0, 0};
      for (int what = 0; what <= 4; what++) {
        due(house[what], x.house(what));
      }
      due("", x.here());
      due(-9, x.goOn());
      x.flat(0, 1);
      due("{0=0}", new Stepfunctions().text(0));
      due(0, new Stepfunctions().house(2));
    });
    sentence(2, "A FUNCTION has one VALUE at each PLACE.", () -> {
      for (int one = 0; one < 4; one++) {
        Stepfunctions x = made(TIPPED, TIPPED, TIPPED, TIPPED);
        due(6, x.flat(one, 7));
        for (int other = 0; other < 4; other++) {
          due(other == one ? "{0=7}" : TIPPED, x.text(other));
        }
      }
    });
    sentence(2, "Returns how many STEPS it had.", () -> {
      Stepfunctions x = made(rungs(20), "{0=0}");
      due(20, x.flat(0, 9999));
      due(1, x.flat(0, -9999));
      due(1, x.flat(0, -9999));
      due("{0=-9999}", x.text(0));
      due(1, x.flat(1, 0));
    });
    sentence(3, "A FUNCTION has a VALUE over a SPAN.", () -> {
      Stepfunctions x = made("{0=0}", STEPPED, STEPPED, STEPPED);
      due(5, x.set(1, 15, 25, 9));
      due("{0=0, 10=5, 15=9, 25=-3, 30=0}", x.text(1));
      due(2, x.set(2, 0, 30, 1));
      due("{0=1, 30=0}", x.text(2));
      due(5, x.set(3, 40, 200, -9999));
      due("{0=0, 10=5, 20=-3, 30=0, 40=-9999}", x.text(3));
    });
    sentence(3, "Returns how many STEPS it has then; -9.", () -> {
      Stepfunctions x = made("{0=1, 10=2, 20=1}", rungs(20));
      due(1, x.set(0, 10, 20, 1));
      due(2, x.set(0, 0, 1, 9999));
      due(3, x.set(0, 199, 200, -9999));
      due(3, x.set(0, 50, 50, 5));
      due("{0=9999, 1=1, 199=-9999}", x.text(0));
      due(1, x.set(0, 0, 200, -9));
      due(20, x.set(1, 190, 200, 9));
      due(19, x.set(1, 190, 200, 0));
      due(20, x.set(1, 199, 200, 1));
      refused(x, y -> y.set(1, 198, 199, 2));
    });
    sentence(3, "- `from`: where the SPAN begins - `to`: where it ends (not in it)", () -> {
      Stepfunctions x = new Stepfunctions();
      due(3, x.set(0, 10, 20, 5));
      due("0550", "" + x.at(0, 9) + x.at(0, 10) + x.at(0, 19) + x.at(0, 20));
    });
    sentence(4, "The VALUES of a FUNCTION over a SPAN become so much more.", () -> {
      Stepfunctions x = made("{0=0}", STEPPED, STEPPED);
      due(6, x.add(1, 15, 35, 10));
      due("{0=0, 10=5, 15=15, 20=7, 30=10, 35=0}", x.text(1));
      due(4, x.add(2, 0, 200, -9));
      due("{0=-9, 10=-4, 20=-12, 30=-9}", x.text(2));
    });
    sentence(4, "Returns how many STEPS it has then; -9.", () -> {
      Stepfunctions x = made("{0=0, 10=5, 20=0}", rungs(20), "{0=-9998, 199=9998}");
      due(1, x.add(0, 10, 20, -5));
      due(2, x.add(0, 0, 1, 9999));
      due(2, x.add(0, 0, 200, 0));
      due(2, x.add(0, 77, 77, 9999));
      due("{0=9999, 1=0}", x.text(0));
      due(20, x.add(1, 0, 200, 9));
      refused(x, y -> y.add(1, 195, 200, 1));
      refused(x, y -> y.add(2, 0, 200, 2));
      refused(x, y -> y.add(2, 0, 200, -2));
      due(2, x.add(2, 199, 200, 1));
      due(2, x.add(2, 0, 199, -1));
      due("{0=-9999, 199=9999}", x.text(2));
    });
    sentence(4, "- `from`: where the SPAN begins - `to`: where it ends (not in it)", () -> {
      Stepfunctions x = new Stepfunctions();
      due(3, x.add(0, 10, 20, 5));
      due("0550", "" + x.at(0, 9) + x.at(0, 10) + x.at(0, 19) + x.at(0, 20));
    });
    sentence(5, "The VALUES of a FUNCTION over a SPAN that are less become that.", () -> {
      Stepfunctions x = made("{0=1, 10=2, 20=3}");
      due(2, x.raise(0, 0, 200, 2));
      due("{0=2, 20=3}", x.text(0));
      due(2, x.raise(0, 0, 200, -9999));
      due("{0=2, 20=3}", x.text(0));
      due(1, x.raise(0, 0, 200, 9999));
      due("{0=9999}", x.text(0));
    });
    sentence(5, "Returns how many STEPS it has then; -9.", () -> {
      Stepfunctions x = made(rungs(20), "{0=-9, 199=-8}");
      refused(x, y -> y.raise(0, 195, 200, 2));
      refused(x, y -> y.raise(0, 1, 2, 1));
      due(20, x.raise(0, 195, 200, 1));
      due(20, x.raise(0, 5, 5, 9));
      due(2, x.raise(1, 0, 199, -7));
      due("{0=-7, 199=-8}", x.text(1));
      due(1, x.raise(1, 199, 200, -7));
    });
    sentence(5, "- `from`: where the SPAN begins - `to`: where it ends (not in it)", () -> {
      Stepfunctions x = new Stepfunctions();
      due(3, x.raise(0, 10, 20, 5));
      due("0550", "" + x.at(0, 9) + x.at(0, 10) + x.at(0, 19) + x.at(0, 20));
    });
    sentence(6, "The VALUES of a FUNCTION over a SPAN that are greater become that.", () -> {
      Stepfunctions x = made("{0=1, 10=2, 20=3}");
      due(2, x.lower(0, 0, 200, 2));
      due("{0=1, 10=2}", x.text(0));
      due(2, x.lower(0, 0, 200, 9999));
      due("{0=1, 10=2}", x.text(0));
      due(1, x.lower(0, 0, 200, -9999));
      due("{0=-9999}", x.text(0));
    });
    sentence(6, "Returns how many STEPS it has then; -9.", () -> {
      Stepfunctions x = made(rungs(20), "{0=9, 199=8}");
      refused(x, y -> y.lower(0, 195, 200, -2));
      refused(x, y -> y.lower(0, 11, 12, 0));
      due(20, x.lower(0, 11, 12, 1));
      due(20, x.lower(0, 5, 5, -9));
      due(2, x.lower(1, 0, 199, 7));
      due("{0=7, 199=8}", x.text(1));
      due(1, x.lower(1, 199, 200, 7));
    });
    sentence(6, "- `from`: where the SPAN begins - `to`: where it ends (not in it)", () -> {
      Stepfunctions x = made("{0=9}");
      due(3, x.lower(0, 10, 20, 5));
      due("9559", "" + x.at(0, 9) + x.at(0, 10) + x.at(0, 19) + x.at(0, 20));
    });
  }

  private static void promises7To13() {
    sentence(7, "Each VALUE of a FUNCTION becomes its opposite (0 less it).", () -> {
      Stepfunctions x = made("{0=0}", STEPPED);
      x.negate(1);
      due("{0=0, 10=-5, 20=3, 30=0}", x.text(1));
    });
    sentence(7, "Returns its VALUE at the PLACE 0 then.", () -> {
      Stepfunctions x = made("{0=9, 199=-9999}", "{0=0, 1=9999}", steps(0, 10, 20, 9999, -9999));
      due(-9, x.negate(0));
      due("{0=-9, 199=9999}", x.text(0));
      due(0, x.negate(1));
      due("{0=0, 1=-9999}", x.text(1));
      due(-9999, x.negate(2));
      due(9999, x.negate(2));
      due(20, x.steps(2));
      due(0, x.house(2));
    });
    sentence(8, "Each VALUE of a FUNCTION becomes so many times as much.", () -> {
      for (int by = -9; by <= 9; by++) {
        Stepfunctions x = made("{0=0}", "{0=1, 10=-2, 199=1111}");
        due(by == 0 ? 1 : 3, x.scale(1, by));
        due(by == 0 ? "{0=0}" : "{0=" + by + ", 10=" + -2 * by + ", 199=" + 1111 * by + "}", x.text(1));
      }
    });
    sentence(8, "Returns how many STEPS it has then; -9.", () -> {
      Stepfunctions x = made(steps(0, 10, 20, 1111, -1111), steps(0, 10, 20, 9999, -9999), "{0=0, 199=5000}");
      due(20, x.scale(0, -9));
      due(steps(0, 10, 20, -9999, 9999), x.text(0));
      refused(x, y -> y.scale(0, 9));
      due(20, x.scale(1, -1));
      due(1, x.scale(1, 0));
      due("{0=0}", x.text(1));
      due(1, x.scale(1, 9));
      refused(x, y -> y.scale(2, 2));
      due(2, x.scale(2, 1));
    });
    sentence(9, "A FUNCTION becomes as another one.", () -> {
      Stepfunctions x = made(TIPPED, STEPPED, "{0=7}");
      due(0, x.copy(1, 2));
      due(TIPPED + STEPPED + STEPPED + "{0=0}", texts(x));
      due(0, x.copy(3, 0));
      due("{0=0}" + STEPPED + STEPPED + "{0=0}", texts(x));
    });
    sentence(9, "Returns 1 if both were the same already, otherwise 0.", () -> {
      Stepfunctions x = made(rungs(20), TIPPED, "{0=0, 199=1}");
      due(0, x.copy(0, 1));
      due(1, x.copy(0, 1));
      due(1, x.copy(1, 0));
      due(rungs(20) + rungs(20), x.text(0) + x.text(1));
      due(0, x.copy(2, 3));
      due("{0=0, 199=1}{0=0, 199=1}", x.text(2) + x.text(3));
      x.set(3, 0, 1, 4);
      due(0, x.copy(3, 2));
      x.flat(3, 4);
      due("{0=4, 1=0, 199=1}", x.text(2));
    });
    sentence(9, "- `into`: the FUNCTION that becomes so, or the same", () -> {
      Stepfunctions x = made(TIPPED);
      due(1, x.copy(0, 0));
      due(TIPPED, x.text(0));
    });
    sentence(10, "Two FUNCTIONS change what they are (a WALK over one of both is LOST).", () -> {
      for (int[] row : new int[][] {{0, 1, 0}, {0, 1, 1}, {1, 0, 0}, {1, 0, 1}, {2, 2, 2}}) {
        Stepfunctions x = made(TIPPED, STEPPED, "{0=7}");
        x.walk(row[2]);
        x.goOn();
        x.swap(row[0], row[1]);
        due((row[0] == 2 ? TIPPED + STEPPED : STEPPED + TIPPED) + "{0=7}{0=0}", texts(x));
        due(0, x.house(4));
        refused(x, y -> y.goOn());
      }
      Stepfunctions x = made(TIPPED, STEPPED, "{0=7}");
      x.walk(2);
      x.swap(0, 1);
      x.swap(3, 3);
      due(1, x.house(4));
      due(0, x.goOn());
    });
    sentence(10, "Returns how many STEPS the first one has then.", () -> {
      Stepfunctions x = made(rungs(20), "{0=5}");
      due(1, x.swap(0, 1));
      due("{0=5}" + rungs(20), x.text(0) + x.text(1));
      due(20, x.swap(0, 1));
      due(rungs(20) + "{0=5}", x.text(0) + x.text(1));
      due(1, x.swap(3, 2));
      x.flat(3, 6);
      due("{0=0}{0=6}", x.text(2) + x.text(3));
    });
    sentence(10, "- `other`: a FUNCTION, or the same", () -> {
      Stepfunctions x = made(TIPPED);
      due(6, x.swap(0, 0));
      due(TIPPED, x.text(0));
    });
    sentence(11, "A FUNCTION has over a SPAN the VALUES that another one has there.", () -> {
      Stepfunctions x = made("{0=7}", STEPPED);
      due(5, x.splice(0, 15, 31, 1));
      due("{0=7, 15=5, 20=-3, 30=0, 31=7}" + STEPPED, x.text(0) + x.text(1));
      due(4, x.splice(0, 0, 200, 1));
      due(STEPPED, x.text(0));
    });
    sentence(11, "Returns how many STEPS it has then; -9.", () -> {
      Stepfunctions x = made(rungs(20), "{0=5}", TIPPED);
      refused(x, y -> y.splice(0, 195, 200, 1));
      due(20, x.splice(0, 190, 200, 1));
      due(1, x.splice(0, 0, 200, 1));
      due(2, x.splice(1, 199, 200, 2));
      due(3, x.splice(1, 0, 1, 2));
      due("{0=1, 1=5, 199=6}", x.text(1));
      due(3, x.splice(1, 70, 70, 2));
      due(TIPPED, x.text(2));
    });
    sentence(11, "- `from`: where the SPAN begins - `to`: where it ends (not in it)", () -> {
      Stepfunctions x = made("{0=0}", "{0=5}");
      due(3, x.splice(0, 10, 20, 1));
      due("0550", "" + x.at(0, 9) + x.at(0, 10) + x.at(0, 19) + x.at(0, 20));
    });
    sentence(11, "- `other`: a FUNCTION, or the same", () -> {
      Stepfunctions x = made(rungs(20));
      due(20, x.splice(0, 5, 195, 0));
      due(20, x.splice(0, 0, 200, 0));
      due(rungs(20), x.text(0));
    });
    sentence(12, "A FUNCTION moves: the VALUE of each PLACE p comes to p + by, if that is a PLACE; PLACES to which none came have a told VALUE.", () -> {
      due("{0=9, 1=1, 2=2, 3=3, 198=4, 199=5}", shifted(TIPPED, 1, 9));
      due("{0=2, 1=3, 196=4, 197=5, 198=6, 199=9}", shifted(TIPPED, -1, 9));
      due(TIPPED, shifted(TIPPED, 0, 9));
      due("{0=9, 199=1}", shifted(TIPPED, 199, 9));
      due("{0=6, 1=9}", shifted(TIPPED, -199, 9));
      due("{0=-9999}", shifted(TIPPED, 200, -9999));
      due("{0=9999}", shifted(TIPPED, -200, 9999));
      due("{0=1, 199=2}", shifted(TIPPED, 198, 1));
      due("{0=5, 1=6}", shifted(TIPPED, -198, 6));
    });
    sentence(12, "Returns how many STEPS it has then; -9.", () -> {
      Stepfunctions x = made(rungs(20), TIPPED, TIPPED, "{0=5}");
      refused(x, y -> y.shift(0, 1, 2));
      refused(x, y -> y.shift(0, -1, 2));
      due(20, x.shift(0, 1, 0));
      due(20, x.shift(0, 0, 2));
      due(1, x.shift(1, 200, 0));
      due(1, x.shift(2, -200, 0));
      due(1, x.shift(3, 7, 5));
      due(2, x.shift(3, 7, -9));
      due(1, x.shift(3, -7, 5));
    });
    sentence(13, "A FUNCTION is mirrored: the VALUE of each PLACE p comes to 199 - p.", () -> {
      Stepfunctions x = made("{0=1, 1=2, 199=3}", rungs(20));
      x.mirror(0);
      due("{0=3, 1=2, 199=1}", x.text(0));
      x.mirror(0);
      due("{0=1, 1=2, 199=3}", x.text(0));
      x.mirror(1);
      due(steps(0, 10, 20, 1, 0), x.text(1));
    });
    sentence(13, "Returns its VALUE at the PLACE 0 then.", () -> {
      Stepfunctions x = made("{0=1, 199=-9}", "{0=-9999}");
      due(-9, x.mirror(0));
      due(1, x.mirror(0));
      due(-9999, x.mirror(1));
      due(0, x.mirror(2));
      due(0, x.house(2));
    });
  }

  private static String shifted(String text, int by, int value) {
    Stepfunctions x = made(text);
    int steps = x.shift(0, by, value);
    due(steps, x.steps(0));
    return x.text(0);
  }

  private static void promises14To19() {
    sentence(14, "A STEP GOES.", () -> {
      Stepfunctions x = made("{0=0}", STEPPED);
      due(-3, x.dropStep(1, 20));
      due("{0=0, 10=5, 30=0}", x.text(1));
      due(5, x.dropStep(1, 10));
      due("{0=0}", x.text(1));
    });
    sentence(14, "Returns the VALUE that it had there; -9 if there is no STEP, or place is 0.", () -> {
      Stepfunctions x = made("{0=1, 1=-9, 199=3}");
      refused(x, y -> y.dropStep(0, 0));
      refused(x, y -> y.dropStep(0, 2));
      refused(x, y -> y.dropStep(0, 198));
      due(3, x.dropStep(0, 199));
      refused(x, y -> y.dropStep(0, 199));
      due(-9, x.dropStep(0, 1));
      due(4, x.house(2));
      due("{0=1}", x.text(0));
      refused(x, y -> y.dropStep(0, 1));
    });
    sentence(15, "The last STEP GOES.", () -> {
      Stepfunctions x = made("{0=0}", STEPPED);
      due(30, x.dropLast(1));
      due("{0=0, 10=5, 20=-3}", x.text(1));
    });
    sentence(15, "Returns its PLACE; -9 if there is one STEP alone.", () -> {
      Stepfunctions x = made("{0=1, 1=2, 199=3}", rungs(20));
      due(199, x.dropLast(0));
      due(1, x.dropLast(0));
      due("{0=1}", x.text(0));
      refused(x, y -> y.dropLast(0));
      for (int place = 190; place > 0; place -= 10) {
        due(place, x.dropLast(1));
      }
      refused(x, y -> y.dropLast(1));
    });
    sentence(16, "The STRETCH of the PLACE 0 gets the VALUE of the next one.", () -> {
      Stepfunctions x = made("{0=0}", STEPPED, "{0=3, 199=-9}");
      due(10, x.dropFirst(1));
      due("{0=5, 20=-3, 30=0}", x.text(1));
      due(199, x.dropFirst(2));
      due("{0=-9}", x.text(2));
    });
    sentence(16, "Returns where the next one began; -9 if there is one STEP alone.", () -> {
      Stepfunctions x = made("{0=1, 1=2, 199=1}", rungs(20));
      due(1, x.dropFirst(0));
      due("{0=2, 199=1}", x.text(0));
      due(199, x.dropFirst(0));
      due("{0=1}", x.text(0));
      refused(x, y -> y.dropFirst(0));
      for (int place = 10; place < 200; place += 10) {
        due(place, x.dropFirst(1));
      }
      due("{0=1}", x.text(1));
      refused(x, y -> y.dropFirst(1));
    });
    sentence(17, "The STRETCH of a PLACE gets a VALUE.", () -> {
      for (int place = 10; place < 20; place++) {
        Stepfunctions x = made("{0=0}", STEPPED, STEPPED);
        due(5, x.lift(1, place, 6));
        due("{0=0, 10=6, 20=-3, 30=0}", x.text(1));
        due(5, x.lift(2, place, -3));
        due("{0=0, 10=-3, 30=0}", x.text(2));
      }
    });
    sentence(17, "Returns the VALUE that it had.", () -> {
      Stepfunctions x = made("{0=1, 1=-9, 199=3}", rungs(20), "{0=1, 10=2, 20=1}");
      due(1, x.lift(0, 0, 9999));
      due(-9, x.lift(0, 198, -9999));
      due(3, x.lift(0, 199, 3));
      due("{0=9999, 1=-9999, 199=3}", x.text(0));
      due(1, x.lift(1, 199, 7));
      due(20, x.steps(1));
      due(0, x.lift(1, 100, 1));
      due(18, x.steps(1));
      due(2, x.lift(2, 19, 1));
      due("{0=1}", x.text(2));
      due(1, x.lift(2, 199, -9999));
      due("{0=-9999}", x.text(2));
      due(0, x.house(2));
    });
    sentence(18, "The STRETCH that begins at a PLACE gets another VALUE, if it has a told one.", () -> {
      Stepfunctions x = made("{0=0}", STEPPED);
      due(true, x.restep(1, 20, -3, 4));
      due("{0=0, 10=5, 20=4, 30=0}", x.text(1));
      due(false, x.restep(1, 20, -3, 6));
      due(false, x.restep(1, 25, 4, 6));
      due("{0=0, 10=5, 20=4, 30=0}", x.text(1));
      due(true, x.restep(1, 20, 4, 5));
      due("{0=0, 10=5, 30=0}", x.text(1));
    });
    sentence(18, "Returns whether there is a STEP at that PLACE, and it had that VALUE (otherwise nothing changes).", () -> {
      Stepfunctions x = made(TIPPED, "{0=1, 10=2, 20=1}", rungs(20));
      due(false, x.restep(0, 3, 3, 9));
      due(false, x.restep(0, 196, 3, 9));
      due(false, x.restep(0, 199, 5, 9));
      due(false, x.restep(0, 0, 0, 9));
      due(TIPPED, x.text(0));
      due(true, x.restep(0, 0, 1, -9999));
      due(true, x.restep(0, 199, 6, 9999));
      due(true, x.restep(0, 2, 3, 3));
      due("{0=-9999, 1=2, 2=3, 197=4, 198=5, 199=9999}", x.text(0));
      due(true, x.restep(1, 10, 2, 1));
      due("{0=1}", x.text(1));
      due(true, x.restep(2, 190, 1, 5));
      due(20, x.steps(2));
      due(0, x.house(2));
    });
    sentence(18, "- `was`: the told VALUE, any number", () -> {
      Stepfunctions x = made(TIPPED, "{0=-9}");
      for (int was : new int[] {MIN, -10000, -9, 10000, MAX}) {
        due(false, x.restep(0, 1, was, 7));
      }
      due(true, x.restep(1, 0, -9, 8));
      due(TIPPED + "{0=8}", x.text(0) + x.text(1));
    });
    sentence(19, "A STEP GOES, if it has a told VALUE.", () -> {
      Stepfunctions x = made("{0=0}", STEPPED);
      due(false, x.unstep(1, 20, 3));
      due(STEPPED, x.text(1));
      due(true, x.unstep(1, 20, -3));
      due("{0=0, 10=5, 30=0}", x.text(1));
    });
    sentence(19, "Returns whether it went (not that of the PLACE 0).", () -> {
      Stepfunctions x = made(TIPPED, "{0=1, 10=2, 20=1}");
      due(false, x.unstep(0, 0, 1));
      due(false, x.unstep(0, 3, 3));
      due(false, x.unstep(0, 1, 1));
      due(false, x.unstep(0, 199, 5));
      due(TIPPED, x.text(0));
      due(true, x.unstep(0, 199, 6));
      due(false, x.unstep(0, 199, 6));
      due(true, x.unstep(0, 1, 2));
      due("{0=1, 2=3, 197=4, 198=5}", x.text(0));
      due(true, x.unstep(1, 10, 2));
      due("{0=1}", x.text(1));
      due(0, x.house(2));
    });
    sentence(19, "- `was`: the told VALUE, any number", () -> {
      Stepfunctions x = made("{0=1, 5=-9}");
      for (int was : new int[] {MIN, -10000, 10000, MAX}) {
        due(false, x.unstep(0, 5, was));
      }
      due("{0=1, 5=-9}", x.text(0));
      due(true, x.unstep(0, 5, -9));
    });
  }

  private static void promises20To22() {
    sentence(20, "All STEPS above one PLACE, up to another one, GO.", () -> {
      String[][] rows = {
        {"0", "0", STEPPED}, {"10", "10", STEPPED}, {"199", "199", STEPPED}, {"10", "19", STEPPED},
        {"9", "9", STEPPED}, {"30", "199", STEPPED}, {"9", "10", "{0=0, 20=-3, 30=0}"},
        {"10", "20", "{0=0, 10=5, 30=0}"}, {"20", "30", "{0=0, 10=5, 20=-3}"},
        {"10", "199", "{0=0, 10=5}"}, {"0", "199", "{0=0}"}, {"0", "20", "{0=0}"}
      };
      for (String[] row : rows) {
        Stepfunctions x = made(STEPPED);
        x.glue(0, Integer.parseInt(row[0]), Integer.parseInt(row[1]));
        due(row[2], x.text(0));
      }
      Stepfunctions tip = made(TIPPED);
      due(1, tip.glue(0, 198, 199));
      due("{0=1, 1=2, 2=3, 197=4, 198=5}", tip.text(0));
      due(1, tip.glue(0, 0, 1));
      due("{0=1, 2=3, 197=4, 198=5}", tip.text(0));
    });
    sentence(20, "Returns how many went by that (not those that are none any more because of it).", () -> {
      Stepfunctions x = made("{0=1, 10=2, 20=1, 30=2}", rungs(20), STEPPED);
      due(1, x.glue(0, 9, 10));
      due("{0=1, 30=2}", x.text(0));
      due(0, x.glue(0, 29, 29));
      due(0, x.glue(0, 30, 30));
      due(1, x.glue(0, 29, 30));
      due(19, x.glue(1, 0, 199));
      due(0, x.glue(1, 0, 199));
      due(2, x.glue(2, 0, 20));
      due(0, x.house(2));
    });
    sentence(21, "All STEPS of a FUNCTION that are no STEPS of another one GO.", () -> {
      Stepfunctions x = made(TIPPED, "{0=7}", "{0=0, 1=1, 199=2}", TIPPED);
      due(3, x.keepSteps(0, 2));
      due("{0=1, 1=2, 199=6}", x.text(0));
      due(1, x.keepSteps(0, 1));
      due("{0=1}", x.text(0));
      x.set(2, 100, 200, 1);
      due(2, x.keepSteps(3, 2));
      due("{0=1, 1=2}", x.text(3));
      due("{0=7}{0=0, 1=1}", x.text(1) + x.text(2));
    });
    sentence(21, "Returns how many STEPS it has then.", () -> {
      Stepfunctions x = made(rungs(20), steps(0, 10, 20, 7, 8), "{0=1, 10=2, 20=1}", "{0=0, 20=9, 25=0}");
      due(20, x.keepSteps(0, 1));
      due(rungs(20), x.text(0));
      due(1, x.keepSteps(2, 3));
      due("{0=1}", x.text(2));
      due(1, x.keepSteps(0, 3));
      due("{0=0}", x.text(0));
      due(20, x.steps(1));
      due(0, x.house(2));
    });
    sentence(21, "- `other`: a FUNCTION, or the same", () -> {
      Stepfunctions x = made(rungs(20));
      due(20, x.keepSteps(0, 0));
      due(rungs(20), x.text(0));
    });
    sentence(22, "All STEPS of a FUNCTION that are STEPS of another one GO (but the PLACE 0).", () -> {
      Stepfunctions x = made(TIPPED, "{0=7}", "{0=0, 1=1, 199=2}");
      due(6, x.loseSteps(0, 1));
      due(TIPPED, x.text(0));
      due(4, x.loseSteps(0, 2));
      due("{0=1, 2=3, 197=4, 198=5}", x.text(0));
    });
    sentence(22, "Returns how many STEPS it has then.", () -> {
      Stepfunctions x = made(rungs(20), steps(0, 10, 20, 7, 8), "{0=1, 10=2, 20=1, 30=5}", "{0=0, 10=9}");
      due(1, x.loseSteps(0, 1));
      due("{0=0}", x.text(0));
      due(2, x.loseSteps(2, 3));
      due("{0=1, 30=5}", x.text(2));
      due(20, x.loseSteps(1, 0));
      due(0, x.house(2));
    });
    sentence(22, "- `other`: a FUNCTION, or the same", () -> {
      Stepfunctions x = made(rungs(20));
      due(1, x.loseSteps(0, 0));
      due("{0=0}", x.text(0));
    });
  }

  // ---- the promises of two functions

  private static void promises23And24() {
    sentence(23, "A FUNCTION becomes the SUM of two.", () -> {
      Stepfunctions x = made("{0=7}", STEPPED, "{0=2, 30=5, 40=3}");
      due(5, x.sum(1, 2, 3));
      due("{0=7}" + STEPPED + "{0=2, 30=5, 40=3}" + "{0=2, 10=7, 20=-1, 30=5, 40=3}", texts(x));
    });
    sentence(23, "Returns how many STEPS that has then; -9.", () -> {
      Stepfunctions x = made(rungs(20), "{0=9999, 199=-9999}", "{0=-9999, 199=9999}", "{0=1, 199=0}");
      due(1, x.sum(1, 2, 2));
      due("{0=0}", x.text(2));
      refused(x, y -> y.sum(1, 3, 2));
      refused(x, y -> y.sum(1, 1, 1));
      due(20, x.sum(0, 2, 2));
      due(rungs(20), x.text(2));
      x.flat(2, -9);
      due(1, x.sum(2, 2, 3));
      due(2, x.house(2));
    });
    sentence(23, "- `other`: a FUNCTION, or the same", () -> {
      Stepfunctions x = made(TIPPED);
      due(6, x.sum(0, 0, 1));
      due("{0=2, 1=4, 2=6, 197=8, 198=10, 199=12}", x.text(1));
    });
    sentence(23, "- `into`: the FUNCTION that becomes so (it may be one of both)", () -> {
      Stepfunctions x = made(TIPPED, "{0=1, 199=2}");
      due(6, x.sum(0, 1, 0));
      due("{0=2, 1=3, 2=4, 197=5, 198=6, 199=8}", x.text(0));
      due(6, x.sum(0, 1, 1));
      due("{0=3, 1=4, 2=5, 197=6, 198=7, 199=10}", x.text(1));
      due(6, x.sum(1, 1, 1));
      due("{0=6, 1=8, 2=10, 197=12, 198=14, 199=20}", x.text(1));
    });
    sentence(24, "A FUNCTION becomes the REST of two.", () -> {
      Stepfunctions x = made("{0=7}", STEPPED, "{0=2, 30=5, 40=3}");
      due(4, x.less(1, 2, 3));
      due("{0=7}" + STEPPED + "{0=2, 30=5, 40=3}" + "{0=-2, 10=3, 20=-5, 40=-3}", texts(x));
    });
    sentence(24, "Returns how many STEPS that has then; -9.", () -> {
      Stepfunctions x = made(rungs(20), "{0=9999, 199=-9999}", "{0=-9999, 199=9999}", "{0=0, 199=1}");
      refused(x, y -> y.less(1, 2, 3));
      refused(x, y -> y.less(2, 1, 1));
      refused(x, y -> y.less(1, 3, 1));
      due(2, x.less(2, 3, 2));
      due("{0=-9999, 199=9998}", x.text(2));
      refused(x, y -> y.less(3, 0, 3));
      due(1, x.less(1, 1, 3));
      due(4, x.house(2));
    });
    sentence(24, "- `other`: a FUNCTION, or the same", () -> {
      Stepfunctions x = made(rungs(20));
      due(1, x.less(0, 0, 1));
      due(rungs(20) + "{0=0}", x.text(0) + x.text(1));
    });
    sentence(24, "- `into`: the FUNCTION that becomes so (it may be one of both)", () -> {
      Stepfunctions x = made(TIPPED, "{0=1, 199=2}");
      due(5, x.less(0, 1, 0));
      due("{0=0, 1=1, 2=2, 197=3, 198=4}", x.text(0));
      due(6, x.less(0, 1, 1));
      due("{0=-1, 1=0, 2=1, 197=2, 198=3, 199=2}", x.text(1));
      due(1, x.less(1, 1, 1));
      due("{0=0}", x.text(1));
    });
  }

  private static void promises25And26() {
    sentence(25, "A FUNCTION becomes what MEETS of two.", () -> {
      Stepfunctions x = made("{0=7}", STEPPED, "{0=2, 30=5, 40=3}");
      due(4, x.meet(1, 2, 3));
      due("{0=7}" + STEPPED + "{0=2, 30=5, 40=3}" + "{0=0, 10=2, 20=-3, 30=0}", texts(x));
    });
    sentence(25, "Returns how many STEPS that has then; -9.", () -> {
      String other = behind(5, steps(5, 10, 19, 1, 5));
      Stepfunctions x = made(steps(0, 10, 20, 0, 3), other, "{0=9999}", "{0=-9999}");
      due(20, x.meet(0, 2, 3));
      due(steps(0, 10, 20, 0, 3), x.text(3));
      x.flat(3, -9999);
      due(1, x.meet(0, 3, 2));
      due("{0=-9999}", x.text(2));
      refused(x, y -> y.meet(0, 1, 2));
    });
    sentence(25, "- `other`: a FUNCTION, or the same", () -> {
      Stepfunctions x = made(rungs(20));
      due(20, x.meet(0, 0, 1));
      due(rungs(20), x.text(1));
    });
    sentence(25, "- `into`: the FUNCTION that becomes so (it may be one of both)", () -> {
      Stepfunctions x = made("{0=1, 10=3}", "{0=2, 199=0}");
      due(3, x.meet(0, 1, 0));
      due("{0=1, 10=2, 199=0}{0=2, 199=0}", x.text(0) + x.text(1));
      due(3, x.meet(0, 1, 1));
      due("{0=1, 10=2, 199=0}", x.text(1));
      due(3, x.meet(1, 1, 1));
    });
    sentence(26, "A FUNCTION becomes the JOINT of two.", () -> {
      Stepfunctions x = made("{0=7}", STEPPED, "{0=2, 30=5, 40=3}");
      due(5, x.join(1, 2, 3));
      due("{0=7}" + STEPPED + "{0=2, 30=5, 40=3}" + "{0=2, 10=5, 20=2, 30=5, 40=3}", texts(x));
    });
    sentence(26, "Returns how many STEPS that has then; -9.", () -> {
      String other = behind(-5, steps(5, 10, 19, -1, -5));
      Stepfunctions x = made(steps(0, 10, 20, 0, -3), other, "{0=9999}", "{0=-9999}");
      due(20, x.join(0, 3, 3));
      due(steps(0, 10, 20, 0, -3), x.text(3));
      due(1, x.join(0, 2, 3));
      due("{0=9999}", x.text(3));
      refused(x, y -> y.join(0, 1, 2));
    });
    sentence(26, "- `other`: a FUNCTION, or the same", () -> {
      Stepfunctions x = made(rungs(20));
      due(20, x.join(0, 0, 1));
      due(rungs(20), x.text(1));
    });
    sentence(26, "- `into`: the FUNCTION that becomes so (it may be one of both)", () -> {
      Stepfunctions x = made("{0=1, 10=3}", "{0=2, 199=5}");
      due(3, x.join(0, 1, 0));
      due("{0=2, 10=3, 199=5}{0=2, 199=5}", x.text(0) + x.text(1));
      due(3, x.join(0, 1, 1));
      due("{0=2, 10=3, 199=5}", x.text(1));
      due(3, x.join(1, 1, 1));
    });
  }

  private static void promises27And28() {
    sentence(27, "A FUNCTION becomes 1 where the first one is greater than the second one, otherwise 0.", () -> {
      Stepfunctions x = made("{0=5, 1=4, 2=3, 199=9999}", "{0=4, 199=-9999}");
      due(3, x.above(0, 1, 2));
      due("{0=1, 1=0, 199=1}", x.text(2));
      due(3, x.above(1, 0, 2));
      due("{0=0, 2=1, 199=0}", x.text(2));
    });
    sentence(27, "Returns how many STEPS that has then; -9.", () -> {
      Stepfunctions x = made(rungs(20), "{0=9999}", "{0=-9999}", "{0=5}");
      due(1, x.above(2, 1, 3));
      due("{0=0}", x.text(3));
      due(20, x.above(0, 3, 3));
      due(rungs(20), x.text(3));
      due(1, x.above(1, 2, 3));
      due("{0=1}", x.text(3));
      Stepfunctions many = made(steps(0, 5, 19, 0, 1), "{0=0, 150=-1, 160=0, 170=-1}");
      refused(many, y -> y.above(0, 1, 2));
    });
    sentence(27, "- `other`: a FUNCTION, or the same", () -> {
      Stepfunctions x = made(rungs(20), "{0=5}");
      due(1, x.above(0, 0, 1));
      due("{0=0}", x.text(1));
    });
    sentence(27, "- `into`: the FUNCTION that becomes so (it may be one of both)", () -> {
      Stepfunctions x = made("{0=1, 10=3}", "{0=2, 199=5}");
      due(3, x.above(0, 1, 0));
      due("{0=0, 10=1, 199=0}{0=2, 199=5}", x.text(0) + x.text(1));
      due(1, x.above(1, 0, 1));
      due("{0=1}", x.text(1));
      due(1, x.above(1, 1, 1));
      due("{0=0}", x.text(1));
    });
    sentence(28, "A FUNCTION becomes as the first one where a third one is above 0, otherwise as the second one.", () -> {
      Stepfunctions x = made(TIPPED, "{0=7}", "{0=1, 1=0, 2=-1, 198=9999, 199=-9999}");
      due(4, x.choose(0, 1, 2, 3));
      due("{0=1, 1=7, 198=5, 199=7}", x.text(3));
    });
    sentence(28, "Returns how many STEPS that has then; -9.", () -> {
      String other = behind(7, steps(5, 10, 19, 8, 7));
      Stepfunctions x = made(rungs(20), other, "{0=1, 100=0}", "{0=1}");
      due(20, x.choose(0, 1, 3, 3));
      due(rungs(20), x.text(3));
      due(20, x.choose(0, 1, 2, 3));
      refused(x, y -> y.choose(1, 0, 2, 3));
      refused(x, y -> y.choose(1, 0, 0, 3));
      refused(x, y -> y.choose(1, 0, 0, 0));
    });
    sentence(28, "- `other`: a FUNCTION, or the same", () -> {
      Stepfunctions x = made(rungs(20), "{0=0}", "{0=1, 99=0}");
      due(20, x.choose(0, 0, 2, 1));
      due(rungs(20), x.text(1));
    });
    sentence(28, "- `third`: a FUNCTION, or one of both", () -> {
      Stepfunctions x = made("{0=1, 10=-1}", "{0=5, 20=0}");
      due(3, x.choose(0, 1, 0, 2));
      due("{0=1, 10=5, 20=0}", x.text(2));
      due(3, x.choose(0, 1, 1, 2));
      due("{0=1, 10=-1, 20=0}", x.text(2));
      due(2, x.choose(0, 0, 0, 2));
      due("{0=1, 10=-1}", x.text(2));
    });
    sentence(28, "- `into`: the FUNCTION that becomes so (it may be one of these)", () -> {
      for (int into = 0; into < 3; into++) {
        Stepfunctions x = made("{0=1, 10=2}", "{0=3, 30=4}", "{0=1, 20=0}");
        due(4, x.choose(0, 1, 2, into));
        due("{0=1, 10=2, 20=3, 30=4}", x.text(into));
      }
      Stepfunctions y = made(rungs(20));
      due(20, y.choose(0, 0, 0, 0));
      due(rungs(20), y.text(0));
    });
  }

  public static void main(String[] args) throws IOException {
    promises1To6();
    promises7To13();
    promises14To19();
    promises20To22();
    promises23And24();
    promises25And26();
    promises27And28();
    end(1, 28);
  }
}
