import com.sun.management.ThreadMXBean;
import java.lang.management.ManagementFactory;
import java.lang.reflect.Method;
import java.lang.reflect.Modifier;

/**
 * All calls of one run live in one room, some 600,000 objects and 7.3 million fields and elements:
 * 512 calls of any one kind, on functions of twenty steps with long texts, stay far below it.
 */
public final class RoomTest {
  private static final int CALLS = 512;

  /** An object takes 16 bytes at the least and an element one, so the room is never full at this. */
  private static final long MOST_BYTES = 4_000_000;

  private static int wrong = 0;

  private static Stepfunctions full() {
    Stepfunctions x = new Stepfunctions();
    for (int one = 0; one < 4; one++) {
      for (int k = 0; k < 20; k++) {
        x.set(one, k == 0 ? 0 : 180 + k - one % 2, 200, k % 2 == 0 ? -9999 : -9998);
      }
    }
    return x;
  }

  /** 1 is let as each argument of each call. */
  private static Object[] arguments(Method method) {
    Class<?>[] types = method.getParameterTypes();
    Object[] arguments = new Object[types.length];
    for (int k = 0; k < types.length; k++) {
      arguments[k] = types[k] == boolean.class ? (Object) true : (Object) 1;
    }
    return arguments;
  }

  private static long bytesOf(Method method) throws ReflectiveOperationException {
    ThreadMXBean threads = (ThreadMXBean) ManagementFactory.getThreadMXBean();
    long thread = Thread.currentThread().getId();
    Object[] arguments = arguments(method);
    Stepfunctions warm = full();
    for (int call = 0; call < 20; call++) {
      method.invoke(warm, arguments);
    }
    long before = threads.getThreadAllocatedBytes(thread);
    Stepfunctions x = full();
    for (int call = 0; call < CALLS; call++) {
      method.invoke(x, arguments);
    }
    return threads.getThreadAllocatedBytes(thread) - before;
  }

  public static void main(String[] args) throws ReflectiveOperationException {
    for (Method method : Stepfunctions.class.getDeclaredMethods()) {
      if (Modifier.isPublic(method.getModifiers())) {
        long bytes = bytesOf(method);
        if (bytes > MOST_BYTES) {
          wrong++;
          System.out.println(CALLS + " calls of " + method.getName() + " make " + bytes + " bytes");
        }
        if (args.length > 0) {
          System.out.println(bytes + " " + method.getName());
        }
      }
    }
    System.out.println(wrong == 0 ? "every call stays within the room" : wrong + " calls make too much");
    if (wrong != 0) {
      System.exit(1);
    }
  }
}
