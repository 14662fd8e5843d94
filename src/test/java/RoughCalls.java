import java.lang.management.ManagementFactory;
import java.lang.reflect.Method;
import java.lang.reflect.Modifier;
import java.util.ArrayList;
import java.util.Comparator;
import java.util.List;
import java.util.Random;

/** No call ever throws, for any arguments in any state; and 512 calls make few things. */
public final class RoughCalls {
  private static final int RUNS = 600, CALLS = 512;
  private static final long MOST_BYTES_MADE = 100_000;
  private static final int[] ENDS = {Integer.MIN_VALUE, Integer.MIN_VALUE + 1, -101, -4, -3, -2, -1, 0, 1, 2, 3, 4, 5, 7, 8, 9, 10, 11,
      19, 20, 21, 24, 39, 40, 41, 99, 100, 160, 255, 256, 399, 420, 2420, 4060, 2460, 9999, 10000, 99999, 100000,
      Integer.MAX_VALUE - 1, Integer.MAX_VALUE};
  private static final String[] TAPES = {"a5 b3;", "a1;", "h400/", "a2 b1 c3/", "price used ; fit not hip ;",
      "price ((((", "price 1 +", "price - - - - - 1 * (used) ; fit 1 or 1 and 0 ;"};

  public static void main(String[] args) throws Exception {
    List<Method> calls = new ArrayList<>();
    for (Method m : KiltRoom.class.getDeclaredMethods()) {
      if (Modifier.isPublic(m.getModifiers())) calls.add(m);
    }
    calls.sort(Comparator.comparing(Method::getName));
    int wrong = 0;
    for (int run = 0; run < RUNS && wrong == 0; run++) {
      Random dice = new Random(run);
      KiltRoom x = new KiltRoom();
      for (int c = 0; c < CALLS && wrong == 0; c++) {
        if (dice.nextInt(12) == 0) {
          for (char b : TAPES[dice.nextInt(TAPES.length)].toCharArray()) x.feed(1, b);
        }
        Method m = calls.get(dice.nextInt(calls.size()));
        Object[] given = given(m, dice);
        try {
          m.invoke(x, given);
        } catch (Exception e) {
          wrong++;
          System.out.println("run " + run + ": " + m.getName() + java.util.Arrays.toString(given) + " threw " + e.getCause());
        }
      }
    }
    wrong += thrift();
    System.out.println(wrong == 0 ? "no call threw" : wrong + " faults");
    if (wrong != 0) System.exit(1);
  }

  private static Object[] given(Method m, Random dice) {
    Object[] all = new Object[m.getParameterCount()];
    for (int i = 0; i < all.length; i++) {
      Class<?> type = m.getParameterTypes()[i];
      int end = dice.nextInt(3) == 0 ? ENDS[dice.nextInt(ENDS.length)] : dice.nextInt(6);
      if (m.getName().equals("kilt") && i == 1 && dice.nextBoolean()) end = 100 * (4 + dice.nextInt(37)) + 20 + dice.nextInt(41);
      if (m.getName().equals("kilt") && i == 2 && dice.nextBoolean()) end = 100 * (4 + dice.nextInt(21)) + 20;
      if (m.getName().equals("bolt") && i == 1 && dice.nextBoolean()) end = 100 + dice.nextInt(9900);
      all[i] = type == boolean.class ? (Object) dice.nextBoolean() : type == long.class ? (Object) dice.nextLong() : (Object) end;
    }
    return all;
  }

  /** A run of the dearest calls: how far it is above what it may make. */
  private static int thrift() {
    com.sun.management.ThreadMXBean threads = (com.sun.management.ThreadMXBean) ManagementFactory.getThreadMXBean();
    dearest();
    long before = threads.getCurrentThreadAllocatedBytes();
    dearest();
    long made = threads.getCurrentThreadAllocatedBytes() - before;
    if (made <= MOST_BYTES_MADE) return 0;
    System.out.println("512 calls made " + made + " bytes");
    return 1;
  }

  private static void dearest() {
    KiltRoom x = new KiltRoom();
    x.feed(5, 0x3B30303468L);
    x.sett();
    for (int b = 0; b < 4; b++) x.bolt(0, 9999 - b);
    for (int k = 0; k < 8; k++) x.kilt(k % 6, 4060 - k, 2420 + 30, 0);
    for (int i = 0; i < 50; i++) {
      x.feed(8, 0x3b20656369727020L);
      x.text();
      x.lay(i % 8, i % 4);
      x.band(255);
      x.sheet(i % 4, i % 3, 40);
      x.flaw(i % 4, 30 * i);
      x.says(i % 8, 0);
      x.shown(i % 8, i, true);
      x.let(i % 8, 1);
      x.sett();
    }
  }
}
