import java.io.IOException;
import java.math.BigInteger;
import java.util.function.ToIntFunction;

/** The document's Description, ahead of its promises: what its words mean at their ends. */
public final class DescriptionTest extends Sentences {
  // ---- Description, ahead of 1

  private static void numbers() {
    sentence(DESCRIPTION, "NONE is -1.", () -> {
      Stepfunctions x = made(STEPPED, "{0=2}");
      due(-1, x.step(0, 4, false));
      due(-1, x.near(0, 0, 0));
      due(-1, x.where(0, 1));
      due(-1, x.edge(0, 11, 20, true));
      due(-1, x.differ(0, 0));
      x.walk(1);
      x.goOn();
      due(-1, x.goOn());
      due(0, x.house(2));
    });
    sentence(DESCRIPTION, "REFUSED is -9: it is told where a call is let, but cannot be done, as told there (as \"-9\")", () -> {
      Stepfunctions x = made(rungs(20), "{0=9999}", "{0=1}");
      refused(x, y -> y.set(0, 195, 200, 3));
      refused(x, y -> y.add(1, 0, 200, 1));
      refused(x, y -> y.dropStep(0, 5));
      refused(x, y -> y.dropLast(1));
      refused(x, y -> y.dropFirst(1));
      refused(x, y -> y.sum(1, 2, 3));
      refused(x, y -> y.goOn());
      due(7, x.house(2));
      due(false, x.restep(0, 5, 0, 3));
      due(false, x.unstep(0, 0, 0));
      due(-1, x.where(0, 2));
      due("", x.here());
      due(7, x.house(2));
    });
    sentence(DESCRIPTION, "a VALUE or a sum that is -9 is none", DescriptionTest::nineLessIsNoRefusal);
  }

  private static void nineLessIsNoRefusal() {
    Stepfunctions x = made("{0=-9, 50=-9999, 60=9}", "{0=9, 1=0, 198=9, 199=0}");
    due(-9, x.at(0, 0));
    due(-9, x.stepOr(0, 0, 3));
    due(-9, x.stepOr(0, 3, -9));
    due(-9, x.area(0, 49, 50));
    due("-9", x.extreme(0, 0, 50, true));
    due("-9", x.nearValue(0, 49, 1));
    due(-9, x.lift(0, 49, 1));
    due(-9999, x.lift(0, 50, -9));
    due(9, x.lift(0, 199, -9));
    due("{0=1, 50=-9}", x.text(0));
    due(-9, x.dropStep(0, 50));
    due(-9, x.negate(1));
    x.flat(0, -9);
    due(-9, x.code(0));
    due(-9, x.mirror(0));
    x.walk(0);
    x.goOn();
    due("-9", x.here());
    due(1, x.flat(0, 0));
    x.flat(1, 0);
    x.set(1, 199, 200, -9);
    due(-9, x.mirror(1));
    due(-9, x.house(1));
    due(0, x.house(2));
  }

  private static void exceptions() {
    sentence(DESCRIPTION, "A method that throws an exception changes nothing.", () -> {
      Stepfunctions x = made(STEPPED);
      x.knock();
      x.walk(0);
      x.goOn();
      x.goOn();
      long before = x.digest();
      due(IllegalArgumentException.class, thrownBy(() -> x.flat(0, 10000)));
      due(IndexOutOfBoundsException.class, thrownBy(() -> x.set(0, 5, 201, 1)));
      due(IndexOutOfBoundsException.class, thrownBy(() -> x.sum(0, 0, 4)));
      due(IndexOutOfBoundsException.class, thrownBy(() -> x.swap(0, 4)));
      due(IndexOutOfBoundsException.class, thrownBy(() -> x.walk(-1)));
      due(IllegalArgumentException.class, thrownBy(() -> x.house(5)));
      due(before, x.digest());
      due("5", x.here());
      due(20, x.goOn());
    });
    sentence(DESCRIPTION, "If several exceptions apply, the one that is named first is thrown", () -> {
      Stepfunctions x = made(STEPPED);
      due(IndexOutOfBoundsException.class, thrownBy(() -> x.flat(4, 10000)));
      due(IndexOutOfBoundsException.class, thrownBy(() -> x.set(0, 5, 4, 10000)));
      due(IndexOutOfBoundsException.class, thrownBy(() -> x.scale(-1, 10)));
      due(IndexOutOfBoundsException.class, thrownBy(() -> x.shift(4, 201, 10000)));
      due(IndexOutOfBoundsException.class, thrownBy(() -> x.lift(0, 200, 10000)));
      due(IndexOutOfBoundsException.class, thrownBy(() -> x.restep(0, -1, 0, 10000)));
      due(IndexOutOfBoundsException.class, thrownBy(() -> x.near(4, 0, 4)));
      due(IndexOutOfBoundsException.class, thrownBy(() -> x.nearValue(-1, 0, -1)));
    });
    sentence(DESCRIPTION, "exceptions go ahead of -9", () -> {
      Stepfunctions x = made(rungs(20), "{0=9999}", "{0=9999}");
      due(IllegalArgumentException.class, thrownBy(() -> x.set(0, 195, 200, 10000)));
      due(IndexOutOfBoundsException.class, thrownBy(() -> x.add(1, 0, 201, 1)));
      due(IllegalArgumentException.class, thrownBy(() -> x.scale(1, 10)));
      due(IndexOutOfBoundsException.class, thrownBy(() -> x.dropStep(0, 200)));
      due(IndexOutOfBoundsException.class, thrownBy(() -> x.dropLast(4)));
      due(IndexOutOfBoundsException.class, thrownBy(() -> x.sum(1, 2, 4)));
      due(IndexOutOfBoundsException.class, thrownBy(() -> x.splice(0, 195, 201, 1)));
      due(IllegalArgumentException.class, thrownBy(() -> x.shift(0, 1, -10000)));
      due(0, x.house(2));
    });
    sentence(DESCRIPTION, "An object is used for at most 512 calls after it has been made", () -> {
      Stepfunctions x = new Stepfunctions();
      for (int k = 0; k < 255; k++) {
        due(k % 20 + 1, x.set(0, 10 * (k % 20), 200, k % 20));
        due(-9, x.goOn());
      }
      due(255, x.house(2));
      due(true, x.isSound());
    });
  }

  // ---- Description 1

  private static void places() {
    sentence(DESCRIPTION, "PLACES are 0 to 199.", () -> {
      Stepfunctions x = made(TIPPED);
      due(1, x.at(0, 0));
      due(6, x.at(0, 199));
      due(IndexOutOfBoundsException.class, thrownBy(() -> x.at(0, -1)));
      due(IndexOutOfBoundsException.class, thrownBy(() -> x.at(0, 200)));
    });
    sentence(DESCRIPTION, "FUNCTIONS 0 to 3", () -> {
      Stepfunctions x = made("{0=1}", "{0=2}", "{0=3}", "{0=4}");
      for (int one = 0; one < 4; one++) {
        due(one + 1, x.at(one, 0));
      }
      due(IndexOutOfBoundsException.class, thrownBy(() -> x.steps(-1)));
      due(IndexOutOfBoundsException.class, thrownBy(() -> x.steps(4)));
    });
    sentence(DESCRIPTION, "each has a VALUE at each PLACE, from -9999 to 9999 (at first 0 at each)", () -> {
      Stepfunctions x = new Stepfunctions();
      for (int one = 0; one < 4; one++) {
        due("00", x.extreme(one, 0, 200, true) + x.extreme(one, 0, 200, false));
        for (int place : new int[] {0, 1, 199}) {
          due(0, x.at(one, place));
        }
      }
      x.set(0, 0, 1, 9999);
      x.set(0, 199, 200, -9999);
      due("{0=9999, 1=0, 199=-9999}", x.text(0));
    });
    sentence(DESCRIPTION, "STEPS of a FUNCTION: the PLACE 0, and each PLACE whose VALUE is unlike that of the PLACE ahead (one less).", () -> {
      Stepfunctions x = made("{0=0}", TIPPED);
      due(true, x.isStep(0, 0));
      due(false, x.isStep(0, 1));
      due(1, x.steps(0));
      x.set(0, 100, 101, 1);
      due("{0=0, 100=1, 101=0}", x.text(0));
      x.set(0, 101, 102, 1);
      due("{0=0, 100=1, 102=0}", x.text(0));
      x.set(0, 100, 102, 0);
      due("{0=0}", x.text(0));
      due(6, x.steps(1));
      due(true, x.isStep(1, 199));
      due(false, x.isStep(1, 196));
    });
    sentence(DESCRIPTION, "STRETCH of a PLACE: from the last STEP up to it on to the PLACE ahead of the next STEP behind it (without one to 199).", () -> {
      Stepfunctions x = made(STEPPED);
      x.lift(0, 19, 1);
      due("{0=0, 10=1, 20=-3, 30=0}", x.text(0));
      x.lift(0, 20, 2);
      due("{0=0, 10=1, 20=2, 30=0}", x.text(0));
      x.lift(0, 31, 3);
      due("{0=0, 10=1, 20=2, 30=3}", x.text(0));
      due(3, x.at(0, 199));
    });
  }

  private static void limitOfSteps() {
    sentence(DESCRIPTION, "It has at most 20: an act by which a FUNCTION would have more", () -> {
      stepsByAct();
      stepsBySplice();
      stepsByShift();
      stepsOfTwo();
      stepsThatAreNoneInTheEnd();
    });
  }

  /** One step more than nineteen is let, one more than twenty is not; two more are the same. */
  private static void stepsByAct() {
    Stepfunctions x = made(rungs(19), rungs(19), rungs(19), rungs(19));
    due(20, x.set(0, 195, 200, 7));
    refused(x, y -> y.set(0, 197, 200, 8));
    refused(x, y -> y.set(0, 1, 2, 8));
    due(20, x.add(1, 195, 200, 7));
    refused(x, y -> y.add(1, 197, 200, 1));
    refused(x, y -> y.add(1, 1, 2, 1));
    due(20, x.raise(2, 195, 200, 7));
    refused(x, y -> y.raise(2, 197, 200, 8));
    refused(x, y -> y.raise(2, 1, 2, 8));
    due(20, x.lower(3, 195, 200, -7));
    refused(x, y -> y.lower(3, 197, 200, -8));
    refused(x, y -> y.lower(3, 1, 2, -8));
    for (int one = 0; one < 4; one++) {
      due(20, x.steps(one));
    }
    Stepfunctions w = made(rungs(18), rungs(19));
    due(20, w.set(0, 195, 197, 7));
    refused(w, y -> y.set(1, 195, 197, 7));
  }

  private static void stepsBySplice() {
    Stepfunctions x = made(rungs(19), "{0=7}", "{0=8}", rungs(20));
    due(20, x.splice(0, 195, 200, 1));
    refused(x, y -> y.splice(0, 197, 200, 2));
    refused(x, y -> y.splice(3, 1, 2, 2));
    due(20, x.splice(3, 190, 200, 1));
    due(20, x.splice(1, 0, 200, 3));
  }

  private static void stepsByShift() {
    Stepfunctions x = made(rungs(19), rungs(19), rungs(20), rungs(20));
    due(20, x.shift(0, 5, 7));
    refused(x, y -> y.shift(0, 5, 8));
    due(20, x.shift(0, 5, 7));
    due(20, x.shift(1, -5, 7));
    refused(x, y -> y.shift(1, -1, 8));
    due(20, x.shift(1, -1, 7));
    refused(x, y -> y.shift(2, 1, 2));
    due(20, x.shift(2, 9, 0));
    refused(x, y -> y.shift(3, -9, 2));
    due(20, x.shift(3, -10, 2));
  }

  /** Each act of two, where ten steps come from one, and ten, or eleven, from the other. */
  private static void stepsOfTwo() {
    for (int more = 10; more <= 11; more++) {
      int due = more == 10 ? 20 : -9;
      String late = behind(0, steps(101, 5, more, 1000, 0));
      made20(due, rungs(10), late, "{0=0}", y -> y.sum(0, 1, 3));
      made20(due, rungs(10), late, "{0=0}", y -> y.less(0, 1, 3));
      String first = steps(0, 10, 11, 0, 1).replace("100=0", "100=9");
      made20(due, first, behind(9, steps(100, 5, more, 2, 3)), "{0=0}", y -> y.meet(0, 1, 3));
      String last = steps(0, 10, 11, 0, -1).replace("100=0", "100=-9");
      made20(due, last, behind(-9, steps(100, 5, more, -2, -3)), "{0=0}", y -> y.join(0, 1, 3));
      made20(due, rungs(11), behind(0, steps(105, 5, more - 1, -1, 0)), "{0=0}", y -> y.above(0, 1, 3));
      String chosen = behind(9, steps(100, 5, more, 2, 3));
      made20(due, rungs(10), chosen, "{0=1, 100=0}", y -> y.choose(0, 1, 2, 3));
    }
  }

  private static void made20(int due, String one, String other, String third, ToIntFunction<Stepfunctions> act) {
    Stepfunctions x = made(one, other, third, "{0=77, 199=78}");
    if (due == -9) {
      refused(x, act);
    } else {
      due(due, act.applyAsInt(x));
      due(due, x.steps(3));
    }
  }

  /** What counts are the steps that it would have then, not those on the way. */
  private static void stepsThatAreNoneInTheEnd() {
    String one = behind(0, steps(5, 10, 19, 1, 0));
    Stepfunctions x = made(rungs(20), rungs(20), one);
    due(1, x.less(0, 1, 3));
    due(20, x.sum(0, 1, 3));
    due(20, x.meet(0, 1, 3));
    refused(x, y -> y.sum(0, 2, 3));
    due(1, x.set(0, 0, 200, 3));
    due(1, x.raise(1, 0, 200, 1));
    due(1, x.scale(2, 0));
  }

  private static void limitOfValues() {
    sentence(DESCRIPTION, "or a VALUE below -9999 or above 9999, is REFUSED.", () -> {
      Stepfunctions x = made("{0=9998, 1=0, 199=-9998}", "{0=5000}", "{0=4999}", "{0=-5000}");
      due(3, x.add(0, 0, 200, 1));
      refused(x, y -> y.add(0, 0, 1, 1));
      refused(x, y -> y.add(0, 0, 200, 1));
      due(3, x.add(0, 0, 200, -2));
      refused(x, y -> y.add(0, 199, 200, -1));
      refused(x, y -> y.add(0, 0, 200, -9999));
      due(3, x.add(0, 1, 199, 9999));
      due(3, x.add(0, 1, 199, -9998));
      due(1, x.sum(1, 2, 0));
      due("{0=9999}", x.text(0));
      refused(x, y -> y.sum(1, 1, 2));
      refused(x, y -> y.sum(3, 3, 0));
      refused(x, y -> y.less(1, 3, 0));
      refused(x, y -> y.less(3, 1, 1));
      x.negate(2);
      due(1, x.sum(2, 3, 0));
      due("{0=-9999}", x.text(0));
      due(1, x.less(1, 2, 0));
      due("{0=9999}", x.text(0));
      due(1, x.less(2, 1, 0));
      due("{0=-9999}", x.text(0));
    });
    sentence(DESCRIPTION, "or a VALUE below -9999 or above 9999, is REFUSED.", () -> {
      Stepfunctions x = made("{0=1111}", "{0=5000}", "{0=0, 199=1112}", "{0=-3334, 1=0}");
      due(1, x.scale(0, 9));
      due("{0=9999}", x.text(0));
      refused(x, y -> y.scale(0, 2));
      refused(x, y -> y.scale(0, -2));
      due(1, x.scale(0, -1));
      due(1, x.scale(0, 1));
      refused(x, y -> y.scale(1, 2));
      refused(x, y -> y.scale(1, -2));
      refused(x, y -> y.scale(2, 9));
      refused(x, y -> y.scale(2, -9));
      due(2, x.scale(2, 8));
      refused(x, y -> y.scale(3, 3));
      refused(x, y -> y.scale(3, -3));
      due(2, x.scale(3, 2));
      due("{0=-6668, 1=0}", x.text(3));
    });
  }

  private static void spans() {
    sentence(DESCRIPTION, "A SPAN from a to b (0 to 200, a not above b) are the PLACES a to b - 1; it may be empty.", () -> {
      Stepfunctions x = made("{0=9999}", "{0=1}");
      for (int at : new int[] {0, 1, 100, 199, 200}) {
        due(1, x.set(0, at, at, 5));
        due(1, x.add(0, at, at, 9999));
        due(1, x.raise(1, at, at, 5));
        due(1, x.lower(1, at, at, -5));
        due(1, x.splice(0, at, at, 1));
        due(0, x.area(0, at, at));
        due("", x.extreme(0, at, at, true));
        due(NONE, x.edge(0, at, at, true));
        due(true, x.areSameIn(0, 1, at, at));
      }
      due("{0=9999}{0=1}", x.text(0) + x.text(1));
      due(2, x.set(0, 0, 1, 5));
      due(3, x.set(0, 199, 200, 6));
      due(5, x.set(0, 100, 101, 7));
      due("{0=5, 1=9999, 100=7, 101=9999, 199=6}", x.text(0));
      due(1, x.set(0, 0, 200, 8));
      due(0, x.house(2));
      due(IndexOutOfBoundsException.class, thrownBy(() -> x.set(0, -1, 1, 0)));
      due(IndexOutOfBoundsException.class, thrownBy(() -> x.set(0, 0, 201, 0)));
      due(IndexOutOfBoundsException.class, thrownBy(() -> x.set(0, 201, 201, 0)));
      due(IndexOutOfBoundsException.class, thrownBy(() -> x.set(0, 1, 0, 0)));
    });
    sentence(DESCRIPTION, "AREA of a FUNCTION over a SPAN: the sum of its VALUES there.", () -> {
      Stepfunctions x = made(TIPPED, "{0=9999}", "{0=-9999}");
      due(1 + 2 + 195 * 3 + 4 + 5 + 6, x.area(0, 0, 200));
      due(1, x.area(0, 0, 1));
      due(6, x.area(0, 199, 200));
      due(4 + 5, x.area(0, 197, 199));
      due(1999800, x.area(1, 0, 200));
      due(-1999800, x.area(2, 0, 200));
    });
  }

  private static void stepsThatGo() {
    sentence(DESCRIPTION, "That a STEP GOES means: its STRETCH gets the VALUE of the PLACE ahead of it.", () -> {
      Stepfunctions x = made(TIPPED, "{0=1, 10=2, 20=1, 30=5}");
      due(2, x.dropStep(0, 1));
      due("{0=1, 2=3, 197=4, 198=5, 199=6}", x.text(0));
      due(199, x.dropLast(0));
      due("{0=1, 2=3, 197=4, 198=5}", x.text(0));
      due(true, x.unstep(0, 2, 3));
      due("{0=1, 197=4, 198=5}", x.text(0));
      due(2, x.dropStep(1, 10));
      due("{0=1, 30=5}", x.text(1));
    });
    sentence(DESCRIPTION, "(If several go, which ones is told by the STEPS as they are ahead of that, and it is as if the STRETCH of the last one ahead that stays went on;", () -> {
      Stepfunctions x = made("{0=1, 10=2, 20=1, 30=5, 40=6}", "{0=1, 10=2, 20=1, 30=5, 40=6}", "{0=1, 10=2, 20=1, 30=5, 40=6}", "{0=0, 10=1, 20=0}");
      due(2, x.glue(0, 0, 20));
      due("{0=1, 30=5, 40=6}", x.text(0));
      due(3, x.loseSteps(1, 3));
      due("{0=1, 30=5, 40=6}", x.text(1));
      x.flat(3, 0);
      x.set(3, 40, 50, 1);
      due(2, x.keepSteps(2, 3));
      due("{0=1, 40=6}", x.text(2));
      Stepfunctions w = made("{0=1, 10=2, 20=3, 30=4, 40=5}", "{0=0, 20=1, 30=0}");
      due(3, w.loseSteps(0, 1));
      due("{0=1, 10=2, 40=5}", w.text(0));
    });
    sentence(DESCRIPTION, "what stays keeps its VALUE, also if it is no STEP any more then.)", () -> {
      Stepfunctions x = made("{0=1, 10=2, 20=1, 30=5}", "{0=1, 10=2, 20=3, 30=1, 40=7}");
      due(1, x.glue(0, 9, 10));
      due("{0=1, 30=5}", x.text(0));
      due(2, x.glue(1, 9, 20));
      due("{0=1, 40=7}", x.text(1));
      Stepfunctions y = made("{0=1, 10=2, 20=1, 30=5}", "{0=0, 20=1, 30=0}", "{0=1, 10=2, 20=1, 30=5}", "{0=0, 10=1}");
      due(2, y.keepSteps(0, 1));
      due("{0=1, 30=5}", y.text(0));
      due(2, y.loseSteps(2, 3));
      due("{0=1, 30=5}", y.text(2));
    });
    sentence(DESCRIPTION, "The STEP 0 never goes.", () -> {
      Stepfunctions x = made(rungs(20), rungs(20), STEPPED);
      due(19, x.glue(0, 0, 199));
      due("{0=0}", x.text(0));
      due(1, x.loseSteps(1, 1));
      due("{0=0}", x.text(1));
      refused(x, y -> y.dropStep(2, 0));
      due(false, x.unstep(2, 0, 0));
      refused(x, y -> y.dropLast(0));
      due(1, x.keepSteps(2, 0));
      due("{0=0}", x.text(2));
    });
  }

  private static void toldAs() {
    sentence(DESCRIPTION, "As a text a FUNCTION is \"{\", then STEP by STEP its PLACE, \"=\" and its VALUE, with \", \" between, and \"}\".", () -> {
      Stepfunctions x = new Stepfunctions();
      due("{0=0}", x.text(0));
      x.set(0, 199, 200, -9999);
      due("{0=0, 199=-9999}", x.text(0));
      x.set(0, 0, 1, 9999);
      due("{0=9999, 1=0, 199=-9999}", x.text(0));
      due(steps(0, 10, 20, -9999, 9999), made(steps(0, 10, 20, -9999, 9999)).text(0));
    });
    sentence(DESCRIPTION, "CODE: the sum over all STEPS of the PLACE xor the VALUE, both as 32 binary digits (of a number below 0: 2^32 more); the sum wraps around as an int.", () -> {
      due(0, made("{0=0}").code(0));
      due(9999, made("{0=9999}").code(0));
      due(-9999, made("{0=-9999}").code(0));
      due(0, made("{0=0, 199=199}").code(0));
      due(-1 - 199, made("{0=-1, 199=-2}").code(0));
      due(3 + 3, made("{0=3, 1=2}").code(0));
      for (String text : new String[] {steps(0, 10, 20, -9999, 9999), steps(0, 10, 20, -9999, -9998), TIPPED}) {
        Stepfunctions x = made(text);
        BigInteger sum = BigInteger.ZERO;
        for (int k = 0; k < x.steps(0); k++) {
          int place = x.step(0, k, false);
          BigInteger value = BigInteger.valueOf(x.at(0, place));
          BigInteger digits = value.signum() < 0 ? value.add(BigInteger.ONE.shiftLeft(32)) : value;
          sum = sum.add(digits.xor(BigInteger.valueOf(place)));
        }
        due(sum.intValue(), x.code(0));
      }
    });
    sentence(DESCRIPTION, "SUM of two: at each PLACE both VALUES added; REST: that of the first one less that of the second one; what MEETS: the lesser one, the JOINT: the greater one of both.", () -> {
      Stepfunctions x = made(TIPPED, "{0=-3, 1=2, 199=9}");
      due(6, x.sum(0, 1, 2));
      due("{0=-2, 1=4, 2=5, 197=6, 198=7, 199=15}", x.text(2));
      due(6, x.less(0, 1, 2));
      due("{0=4, 1=0, 2=1, 197=2, 198=3, 199=-3}", x.text(2));
      due(3, x.meet(0, 1, 2));
      due("{0=-3, 1=2, 199=6}", x.text(2));
      due(6, x.join(0, 1, 2));
      due("{0=1, 1=2, 2=3, 197=4, 198=5, 199=9}", x.text(2));
    });
  }

  // ---- Description 2: WalkTest shows the same of each call, with its walk at each stage

  private static void oneWalk() {
    sentence(DESCRIPTION, "There is one WALK at most (none at first)", () -> {
      Stepfunctions x = made(STEPPED, TIPPED);
      due(0, x.house(4));
      refused(x, y -> y.goOn());
      x.walk(0);
      due(1, x.house(4));
      x.walk(1);
      due(1, x.house(4));
      x.flat(1, 0);
      due(0, x.house(4));
    });
    sentence(DESCRIPTION, "over the STEPS of a FUNCTION as they are as it begins, from the first one on.", () -> {
      Stepfunctions x = made(STEPPED);
      x.set(0, 5, 200, 7);
      due(2, x.walk(0));
      due(0, x.goOn());
      due(5, x.goOn());
      due(NONE, x.goOn());
    });
  }

  private static void theWalkIsLost() {
    sentence(DESCRIPTION, "It is LOST by each call that may change that FUNCTION", () -> {
      walkIsLost(true, x -> x.set(0, 10, 20, 6));
      walkIsLost(true, x -> x.copy(1, 0));
      walkIsLost(true, x -> x.swap(0, 1));
      walkIsLost(true, x -> x.swap(1, 0));
      walkIsLost(true, x -> x.sum(1, 1, 0));
      walkIsLost(false, x -> x.set(1, 10, 20, 6));
    });
    sentence(DESCRIPTION, "(also if it does not, or is REFUSED;", () -> {
      walkIsLost(true, x -> x.copy(0, 0));
      walkIsLost(true, x -> x.swap(0, 0));
      walkIsLost(true, x -> x.keepSteps(0, 0));
      walkIsLost(true, x -> x.splice(0, 10, 20, 0));
      walkIsLost(true, x -> x.meet(0, 0, 0));
      walkIsLost(true, x -> x.set(0, 10, 10, 6));
      walkIsLost(true, x -> x.glue(0, 10, 10));
      walkIsLost(true, x -> x.restep(0, 10, 4, 6) ? 1 : 0);
      walkIsLost(true, x -> x.unstep(0, 10, 4) ? 1 : 0);
      walkIsLost(true, x -> x.dropStep(0, 11));
      walkIsLost(true, x -> x.scale(0, 9));
      walkIsLost(true, x -> x.less(0, 2, 0));
    });
    sentence(DESCRIPTION, "not if it throws;", () -> {
      walkIsLost(false, x -> thrownBy(() -> x.flat(0, 10000)) == IllegalArgumentException.class ? 1 : 0);
      walkIsLost(false, x -> thrownBy(() -> x.copy(4, 0)) == IndexOutOfBoundsException.class ? 1 : 0);
      walkIsLost(false, x -> thrownBy(() -> x.swap(0, 4)) == IndexOutOfBoundsException.class ? 1 : 0);
      walkIsLost(false, x -> thrownBy(() -> x.walk(4)) == IndexOutOfBoundsException.class ? 1 : 0);
    });
    sentence(DESCRIPTION, "not by one that only takes from it)", () -> {
      walkIsLost(false, x -> x.copy(0, 1));
      walkIsLost(false, x -> x.splice(1, 0, 200, 0));
      walkIsLost(false, x -> x.keepSteps(1, 0));
      walkIsLost(false, x -> x.loseSteps(1, 0));
      walkIsLost(false, x -> x.sum(0, 0, 1));
      walkIsLost(false, x -> x.choose(0, 0, 0, 3));
      walkIsLost(false, x -> x.area(0, 0, 200));
      walkIsLost(false, x -> x.text(0).length());
    });
    sentence(DESCRIPTION, "there is none then.", () -> {
      Stepfunctions x = made(STEPPED);
      x.walk(0);
      x.goOn();
      x.negate(0);
      due(0, x.house(4));
      due("", x.here());
      refused(x, y -> y.goOn());
      due("", x.here());
    });
  }

  /** A walk over 0 that told its second step: lost by the call, or else it goes on. */
  private static void walkIsLost(boolean isLost, ToIntFunction<Stepfunctions> call) {
    Stepfunctions x = made("{0=0, 10=5, 20=-3000, 30=0}", TIPPED, "{0=9999}");
    x.walk(0);
    x.goOn();
    x.goOn();
    call.applyAsInt(x);
    due(isLost ? 0 : 1, x.house(4));
    due(isLost ? "" : "5", x.here());
    due(isLost ? -9 : 20, x.goOn());
  }

  public static void main(String[] args) throws IOException {
    numbers();
    exceptions();
    places();
    limitOfSteps();
    limitOfValues();
    spans();
    stepsThatGo();
    toldAs();
    oneWalk();
    theWalkIsLost();
    end(DESCRIPTION, DESCRIPTION);
  }
}
