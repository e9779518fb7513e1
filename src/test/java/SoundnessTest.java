import java.lang.reflect.Array;
import java.lang.reflect.Field;

/**
 * No run of calls makes a function that is not sound, so isSound() answers false only to a state
 * that is spoilt from outside: this reaches into the rows of values that the program holds.
 */
public final class SoundnessTest {
  private static int wrong = 0;

  private static void due(boolean want, Stepfunctions x, String what) {
    boolean got = x.isSound();
    if (got != want || x.digest() != Given.digestOf(x)) {
      wrong++;
      System.out.println(what + ": isSound() answered " + got + ", due is " + want);
    }
  }

  private static void spoil(Stepfunctions x, int one, int place, int value)
      throws ReflectiveOperationException {
    Field functions = Stepfunctions.class.getDeclaredField("functions");
    functions.setAccessible(true);
    Object row = Array.get(functions.get(x), one);
    Field values = row.getClass().getDeclaredField("values");
    values.setAccessible(true);
    Array.setInt(values.get(row), place, value);
  }

  public static void main(String[] args) throws ReflectiveOperationException {
    for (int one = 0; one < 4; one++) {
      for (int place : new int[] {0, 1, 100, 199}) {
        Stepfunctions x = new Stepfunctions();
        due(true, x, "a new one");
        for (int value : new int[] {-9999, 9999}) {
          spoil(x, one, place, value);
          due(true, x, "function " + one + " is " + value + " at " + place);
        }
        for (int value : new int[] {-10000, 10000, Integer.MIN_VALUE, Integer.MAX_VALUE}) {
          spoil(x, one, place, value);
          due(false, x, "function " + one + " is " + value + " at " + place);
        }
      }
    }
    System.out.println(wrong == 0 ? "soundness is told as due" : wrong + " answers are not as due");
    if (wrong != 0) {
      System.exit(1);
    }
  }
}
