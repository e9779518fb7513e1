import java.math.BigInteger;
import java.util.ArrayList;
import java.util.List;
import java.util.TreeMap;

/** What tests start from: objects made out of the texts of their functions. */
class Given {
  static final int MIN = Integer.MIN_VALUE;
  static final int MAX = Integer.MAX_VALUE;
  static final int NONE = -1;

  static final String STEPPED = "{0=0, 10=5, 20=-3, 30=0}";

  /** Stretches of one PLACE at both ends. */
  static final String TIPPED = "{0=1, 1=2, 2=3, 197=4, 198=5, 199=6}";

  /** As many steps as told: at from, from + gap and so on the first and the second by turns. */
  static String steps(int from, int gap, int count, int first, int second) {
    TreeMap<Integer, Integer> row = new TreeMap<>();
    for (int k = 0; k < count; k++) {
      row.put(from + gap * k, k % 2 == 0 ? first : second);
    }
    return row.toString();
  }

  /** Steps at 0, 10 and so on, 0 and 1 by turns. */
  static String rungs(int count) {
    return steps(0, 10, count, 0, 1);
  }

  /** A first stretch from 0 on, and behind it those steps. */
  static String behind(int begin, String more) {
    return "{0=" + begin + ", " + more.substring(1);
  }

  /** The functions from 0 on are as told by these texts, the others 0 everywhere. */
  static Stepfunctions made(String... texts) {
    Stepfunctions x = new Stepfunctions();
    for (int one = 0; one < texts.length; one++) {
      for (String step : texts[one].substring(1, texts[one].length() - 1).split(", ")) {
        String[] parts = step.split("=");
        x.set(one, Integer.parseInt(parts[0]), 200, Integer.parseInt(parts[1]));
      }
      if (!texts[one].equals(x.text(one))) {
        throw new IllegalStateException("a test can't start: " + x.text(one) + " is not " + texts[one]);
      }
    }
    return x;
  }

  static String texts(Stepfunctions x) {
    return x.text(0) + x.text(1) + x.text(2) + x.text(3);
  }

  /** The checksum in whole numbers without an end, cut to 64 binary digits at the very last. */
  static long digestOf(Stepfunctions x) {
    List<Integer> told = new ArrayList<>();
    for (int what = 0; what <= 4; what++) {
      told.add(x.house(what));
    }
    for (int one = 0; one < 4; one++) {
      told.add(x.steps(one));
      for (int k = 0; k < x.steps(one); k++) {
        told.add(x.step(one, k, false));
        told.add(x.at(one, x.step(one, k, false)));
      }
      told.addAll(List.of(x.code(one), x.text(one).length(), x.area(one, 0, 200), x.area(one, 50, 150)));
      for (int what = 0; what <= 3; what++) {
        told.add(x.near(one, 100, what));
      }
      told.add(x.where(one, 0));
    }
    for (int one = 0; one < 4; one++) {
      for (int other = 0; other < 4; other++) {
        told.add(x.areSame(one, other) ? 1 : 0);
        told.add(x.differ(one, other));
        told.add(x.isBelow(one, other) ? 1 : 0);
      }
    }
    told.add(x.isSound() ? 1 : 0);
    BigInteger d = BigInteger.valueOf(7844);
    for (int v : told) {
      d = d.multiply(BigInteger.valueOf(31)).add(BigInteger.valueOf(v));
    }
    return d.longValue();
  }
}
