import java.util.Random;

/** Rule 7 of LANGUAGE.md: no call ever throws or fails to end, for any arguments in any state. */
public final class WildCallsTest {
  private static final int[] EDGES = {-2, -1, 0, 1, 2, 3, 4, 5, 6, 7, 9, 10, 15, 16, 20, 21, 23, 24, 25, 26, 33,
      34, 60, 61, 499, 500, 501, 1999, 2000, 2001, 99999, 100000, 1000000, 1000001, Integer.MAX_VALUE,
      Integer.MAX_VALUE - 9, Integer.MIN_VALUE, Integer.MIN_VALUE + 9};
  private static final String[] TEXTS = {"bid 500;", "start 999;least 0;", "bid last+lot*9 if kind<3;",
      "bid 1 if 4096*4096*128<0;", "start 4096*4096*128;", "bid ((((((credit))))))*wanted;", "bid", "",
      "least 4096*4096*128-1;", "bid 9-(8-(7-(6-(5-(4-(3*2+1)*2)*3)*4)*5)*6);",
      "bid 1+1*(2+2*(3+3*(4+4*(5+5*(6+6*(7+7*8)))))) if 1+1*(2+2*(3+3*(4+4*(5+5*(6+6*(7+7*8))))))<"
          + "1+1*(2+2*(3+3*(4+4*(5+5*(6+6*(7+7*8)))))) or 1<2 and 1+1*(2+2*(3+3*(4+4*(5+5*(6+6*(7+7*8))))))<0;"};

  private final Random random;
  private final QuayClock x = new QuayClock();

  private WildCallsTest(long seed) {
    random = new Random(seed);
  }

  public static void main(String[] args) {
    for (long seed = 1; seed <= 300; seed++) {
      WildCallsTest wild = new WildCallsTest(seed);
      for (int i = 0; i < 600; i++) {
        wild.call();
        // answers are free behind the 512th call, but even there nothing may throw
        if (i == 200) {
          wild.boundsHold();
        }
      }
    }
    Check.end();
  }

  private int any() {
    int kind = random.nextInt(100);
    if (kind < 60) {
      return random.nextInt(6);
    }
    return kind < 90 ? EDGES[random.nextInt(EDGES.length)] : random.nextInt();
  }

  private void call() {
    switch (random.nextInt(26)) {
      case 0 -> x.feed(random.nextInt(), random.nextInt(), random.nextInt(), random.nextInt(), random.nextInt());
      case 1 -> x.back(any());
      case 2 -> x.read(any());
      case 3 -> x.place();
      case 4, 5, 6 -> x.lot(any(), any(), any(), any(), any());
      case 7 -> x.buyer(any(), any());
      case 8 -> x.want(any(), any(), any());
      case 9 -> x.lorry(any(), any(), any());
      case 10 -> x.sale();
      case 11 -> x.day();
      case 12 -> x.told(any(), any());
      case 13 -> x.limit(any(), any());
      case 14 -> x.rule(any(), any());
      case 15 -> x.bought(any(), any());
      case 16 -> x.last(any());
      case 17 -> x.gets(any());
      case 18 -> x.sum(any());
      case 19 -> x.without(any());
      case 20 -> x.load(any(), any());
      case 21 -> x.stays(any());
      case 22 -> x.count(any());
      case 23 -> x.want(random.nextInt(6), random.nextInt(6), 500);
      default -> {
        x.back(x.count(6));
        Check.put(x, TEXTS[random.nextInt(TEXTS.length)]);
        x.read(random.nextInt(7) - 1);
      }
    }
  }

  /** What stands is within its bounds, whatever was called. */
  private void boundsHold() {
    int[] most = {24, 6, 6, 600, 1, 20, 2000};
    for (int what = 0; what < most.length; what++) {
      int n = x.count(what);
      if (n < 0 || n > most[what]) {
        Check.due("count(" + what + ") is within its bounds: " + n, false, true);
      }
    }
  }
}
