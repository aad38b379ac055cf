import com.sun.management.ThreadMXBean;
import java.lang.management.ManagementFactory;

/** The room that runs take: an object is small, and its calls make nothing. */
public final class RoomTest {
  private static final ThreadMXBean THREADS =
      (ThreadMXBean) ManagementFactory.getThreadMXBean();
  private static final int[] TEXT = {
    't', 'e', 'a', 'm', 's', ' ', '6', ';', 'a', 't', ' ', '1', ' ', '9', ' ', '9', '9', ';', 'k',
    'i', 'n', 'd', ' ', '2'
  };

  public static void main(String[] args) {
    HomeRounds x = new HomeRounds();
    long sum = all(x, 50);
    long before = made();
    HomeRounds y = new HomeRounds();
    long object = made() - before;
    before = made();
    sum += all(x, 2000);
    long calls = made() - before;
    // The looks at the room take some bytes themselves.
    Check.due("bytes of an object: " + object, object < 30_000);
    Check.due("bytes of 2000 times all calls: " + calls, calls < 20_000);
    Check.due("the calls were done", sum != 0 && y.told(0) == 4);
    Check.end("RoomTest");
  }

  private static long made() {
    return THREADS.getThreadAllocatedBytes(Thread.currentThread().getId());
  }

  private static long all(HomeRounds x, int times) {
    long sum = 0;
    for (int i = 0; i < times; i++) {
      sum += x.teams(6) + x.ground(i % 6, i % 100, 7) + x.swap(i % 5, 2) + x.turn(i % 5, 1);
      sum += x.exchange(i % 6, 3) + x.bar(i % 6, i % 5) + x.rate(3, i % 100) + x.kind(i % 3);
      for (int sign : TEXT) {
        sum += x.feed(sign);
      }
      sum += x.read() + x.step(i % 3, 3) + x.game(0, 1, 0) + x.of(1, 2, 3) + x.season(1, 9, 1);
      sum += x.when(1, 2) + x.about(i % 6, i % 7) + x.carried(1, 2) + x.loop(0, 1, 2);
      sum += x.told(i % 10) + x.rateOf(2) + x.wear(1, 4) + x.cost() + x.would(2, 2) + x.spread(1);
      sum += x.see(1, 2, true) + x.fits() + x.odds(1, 0) + x.mean(1) + x.event(i % 4, 11);
      sum += x.after(2) + x.book(2, 3) + x.looked() + x.image() + x.undo() + x.count(1);
      sum += x.tape(0, 2, 60) + x.item(0, 5, i) + x.judge(1, 0, 0) + x.peek(0, 5);
      sum += x.shift(0, 0, 0, 3, 50);
    }
    return sum;
  }
}
