import java.lang.reflect.InvocationTargetException;
import java.lang.reflect.Method;
import java.lang.reflect.Modifier;
import java.util.ArrayList;
import java.util.List;
import java.util.Random;

/**
 * Every call with every mixture of numbers at the ends of what there can be, and far beyond: the
 * class answers as the Model does, and nothing is ever thrown.
 */
public final class WildTest {
  private static final int MIN = Integer.MIN_VALUE, MAX = Integer.MAX_VALUE;
  private static final int[] ENDS = {
    MIN, MIN + 1, -128, -100, -14, -11, -10, -6, -5, -4, -3, -2, -1, 0, 1, 2, 3, 4, 5, 6, 7, 8, 9,
    10, 11, 12, 19, 20, 22, 23, 30, 33, 34, 40, 42, 43, 44, 49, 50, 51, 52, 55, 56, 59, 60, 61, 99,
    100, 101, 127, 128, 255, 256, 1 << 16, 1 << 30, MAX - 1, MAX
  };
  private static final int[] FEW = {MIN, -2, -1, 0, 1, 2, 3, 4, 5, 6, 9, 10, 60, 61, 99, 100, MAX};
  private static final int[] FEWEST = {MIN, -1, 0, 1, 3, 5, 6, 60, 61, MAX};

  private final Random random;
  private HomeRounds x = new HomeRounds();
  private Model m = new Model();
  private int calls = 0;

  private WildTest(int seed) {
    random = new Random(seed);
  }

  public static void main(String[] args) throws ReflectiveOperationException {
    List<Method> all = new ArrayList<>();
    for (Method method : HomeRounds.class.getDeclaredMethods()) {
      if (Modifier.isPublic(method.getModifiers())) {
        all.add(method);
      }
    }
    all.sort((a, b) -> a.getName().compareTo(b.getName()));
    Check.due("calls of the face", all.size(), 40);
    for (int n : new int[] {4, 6}) {
      for (Method method : all) {
        new WildTest(n).mixtures(method, n);
      }
    }
    Check.end("WildTest");
  }

  private void mixtures(Method method, int n) throws ReflectiveOperationException {
    int many = method.getParameterCount();
    int[] from = many <= 2 ? ENDS : many == 3 ? FEW : FEWEST;
    int mixtures = 1;
    for (int i = 0; i < many; i++) {
      mixtures *= from.length;
    }
    Method same = Model.class.getDeclaredMethod(method.getName(), method.getParameterTypes());
    fresh(n);
    for (int mixture = 0; mixture < mixtures; mixture++) {
      if (calls > 500) {
        fresh(n);
      }
      Object[] args = new Object[many];
      int rest = mixture;
      for (int i = 0; i < many; i++) {
        args[i] = told(method.getParameterTypes()[i], from[rest % from.length]);
        rest /= from.length;
      }
      due(method, same, args);
    }
  }

  private static Object told(Class<?> type, int v) {
    return type == boolean.class ? (Object) (v > 0) : type == long.class ? (Object) (long) v : v;
  }

  private void due(Method method, Method same, Object[] args) throws ReflectiveOperationException {
    String call = method.getName() + java.util.Arrays.toString(args);
    calls++;
    try {
      long got = ((Number) method.invoke(x, args)).longValue();
      Check.due(call, got, ((Number) same.invoke(m, args)).longValue());
    } catch (InvocationTargetException e) {
      Check.due(call + " threw " + e.getCause(), false);
    }
  }

  /** A new pair, of which something of all is told. */
  private void fresh(int n) {
    x = new HomeRounds();
    m = new Model();
    calls = 60;
    pair(x.teams(n), m.teams(n));
    for (int i = 0; i < n; i++) {
      int a = random.nextInt(100);
      int b = random.nextInt(100);
      pair(x.ground(i, a, b), m.ground(i, a, b));
      pair(x.bar(i, a % 3), m.bar(i, a % 3));
      pair(x.turn(a % 3, b % 2), m.turn(a % 3, b % 2));
      pair(x.event(a % 4, 12 - b % 2), m.event(a % 4, 12 - b % 2));
      pair(x.see(i, a % 10, true), m.see(i, a % 10, true));
      pair(x.book(i, a % 2), m.book(i, a % 2));
    }
    pair(x.kind(n % 3), m.kind(n % 3));
    pair(x.tape(0, 2, 60), m.tape(0, 2, 60));
    pair(x.tape(1, 2, 5), m.tape(1, 2, 5));
    pair(x.tape(3, 4, 6), m.tape(3, 4, 6));
    pair(x.tape(5, 2, 0), m.tape(5, 2, 0));
    for (int r = 0; r < 5; r++) {
      pair(x.item(1, r, x.wear(3, r)), m.item(1, r, m.wear(3, r)));
    }
  }

  private void pair(long got, long want) {
    Check.due("in the beginning", got, want);
  }
}
