/** Promise 19 (without): the day's sale again without a buyer, with all else as it is now. */
public final class WithoutTest {
  public static void main(String[] args) {
    withoutOne();
    changesNothing();
    asItIsNow();
    noSuchOnes();
    Check.end();
  }

  /** Buyer 0 would pay 90, buyer 1 60; two lots of ten boxes and one of another kind. */
  private static QuayClock twoBuyers() {
    QuayClock x = new QuayClock();
    x.buyer(0, 100000);
    x.buyer(1, 600);
    x.want(0, 0, 20);
    x.want(1, 0, 20);
    Check.text(x, 0, "bid 90;");
    Check.text(x, 1, "bid 60;");
    x.lot(0, 0, 0, 10, 0);
    x.lot(1, 0, 0, 10, 0);
    x.lot(2, 1, 0, 3, 0);
    return x;
  }

  private static void withoutOne() {
    QuayClock x = twoBuyers();
    Check.due("without(0) ahead of the sale", x.without(0), -1);
    x.sale();
    // 90 and 89 for ten boxes, and 1 * 3 / 2 from the fund
    Check.due("all boats", x.gets(0) + x.gets(1) + x.gets(2), 873 + 864 + 1);
    Check.due("without(0)", x.without(0), 582 + 5 + 1);
    Check.due("without(1)", x.without(1), 873 + 864 + 1);
  }

  private static void changesNothing() {
    QuayClock x = twoBuyers();
    x.lorry(0, 60, 99999);
    x.sale();
    for (int i = 0; i < 3; i++) {
      x.without(0);
      Check.due("told(0, 0)", x.told(0, 0), 0);
      Check.due("told(1, 1)", x.told(1, 1), 89);
      Check.due("told(1, 7)", x.told(1, 7), 0);
      Check.due("bought(0, 1)", x.bought(0, 1), 98210);
      Check.due("bought(1, 1)", x.bought(1, 1), 600);
      Check.due("bought(0, 2)", x.bought(0, 2), 2);
      Check.due("gets(1)", x.gets(1), 864);
      Check.due("sum(0)", x.sum(0), 1790);
      Check.due("load(0, 0)", x.load(0, 0), 20);
      Check.due("last(0)", x.last(0), 0);
      Check.due("limit(0, 0)", x.limit(0, 0), 0);
    }
    x.day();
    Check.due("last(0) of the day", x.last(0), 89);
    Check.due("without(0) on the next day", x.without(0), -1);
  }

  private static void asItIsNow() {
    QuayClock x = twoBuyers();
    x.sale();
    x.want(1, 0, 9);
    Check.due("without(0), wants of 9", x.without(0), 5 + 5 + 1);
    x.want(1, 0, 10);
    Check.text(x, 1, "bid 50;");
    Check.due("without(0), another text", x.without(0), 485 + 5 + 1);
    Check.text(x, -1, "start 40;least 20;");
    Check.due("without(0), another text of the hall", x.without(0), 388 + 100 + 30);
    x.buyer(2, 1000);
    x.want(2, 1, 3);
    Check.text(x, 2, "bid 30;");
    Check.due("without(0), another buyer", x.without(0), 388 + 100 + 88);
    Check.due("without(2)", x.without(2), 388 + 388 + 30);
    Check.due("told(0, 4) stays", x.told(0, 4), 100);
  }

  private static void noSuchOnes() {
    QuayClock x = twoBuyers();
    x.sale();
    int[] wrong = {-1, -2, 2, 6, Integer.MAX_VALUE, Integer.MIN_VALUE};
    for (int w : wrong) {
      Check.due("without(" + w + ")", x.without(w), -1);
    }
    QuayClock y = new QuayClock();
    y.buyer(0, 0);
    y.sale();
    Check.due("without(0) of no lots", y.without(0), 0);
  }
}
