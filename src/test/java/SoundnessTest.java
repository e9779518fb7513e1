import java.lang.reflect.Array;
import java.lang.reflect.Field;

/**
 * No run of calls makes a function that is not sound, so isSound() answers false only to a state
 * that is spoilt from outside: this reaches into the rows of values that the program holds.
 */
public final class SoundnessTest {
  private static int wrong = 0;

  private static void due(boolean want, Stepfunctions x, String what) {
    boolean got = x.isSound();
    long last = x.digest() - digestWithout(x);
    if (got != want || last != (want ? 1 : 0)) {
      wrong++;
      System.out.println(what + ": isSound() answered " + got + ", due is " + want);
    }
  }

  /** The checksum of that state, but for the last number, which tells of isSound(). */
  private static long digestWithout(Stepfunctions x) {
    long d = 7844;
    for (int what = 0; what <= 4; what++) {
      d = d * 31 + x.house(what);
    }
    for (int one = 0; one < 4; one++) {
      d = d * 31 + x.steps(one);
      for (int k = 0; k < x.steps(one); k++) {
        d = d * 31 + x.step(one, k, false);
        d = d * 31 + x.at(one, x.step(one, k, false));
      }
      d = d * 31 + x.code(one);
      d = d * 31 + x.text(one).length();
      d = d * 31 + x.area(one, 0, 200);
      d = d * 31 + x.area(one, 50, 150);
      for (int what = 0; what <= 3; what++) {
        d = d * 31 + x.near(one, 100, what);
      }
      d = d * 31 + x.where(one, 0);
    }
    for (int one = 0; one < 4; one++) {
      for (int other = 0; other < 4; other++) {
        d = d * 31 + (x.areSame(one, other) ? 1 : 0);
        d = d * 31 + x.differ(one, other);
        d = d * 31 + (x.isBelow(one, other) ? 1 : 0);
      }
    }
    return d * 31;
  }

  private static void spoil(Stepfunctions x, int one, int place, int value)
      throws ReflectiveOperationException {
    Field functions = Stepfunctions.class.getDeclaredField("functions");
    functions.setAccessible(true);
    Object row = Array.get(functions.get(x), one);
    Field values = row.getClass().getDeclaredField("values");
    values.setAccessible(true);
    Array.setInt(values.get(row), place, value);
  }

  public static void main(String[] args) throws ReflectiveOperationException {
    for (int one = 0; one < 4; one++) {
      for (int place : new int[] {0, 1, 100, 199}) {
        Stepfunctions x = new Stepfunctions();
        due(true, x, "a new one");
        for (int value : new int[] {-9999, 9999}) {
          spoil(x, one, place, value);
          due(true, x, "function " + one + " is " + value + " at " + place);
        }
        for (int value : new int[] {-10000, 10000, Integer.MIN_VALUE, Integer.MAX_VALUE}) {
          spoil(x, one, place, value);
          due(false, x, "function " + one + " is " + value + " at " + place);
        }
      }
    }
    System.out.println(wrong == 0 ? "soundness is told as due" : wrong + " answers are not as due");
    if (wrong != 0) {
      System.exit(1);
    }
  }
}
