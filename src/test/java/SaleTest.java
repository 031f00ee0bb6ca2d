/** Promises 1, 6, 7, 10, 11, 12, 15, 16, 17, 18, 22: lots, buyers, the sale, days and what is told. */
public final class SaleTest {
  private static final int[] FAR = {-2, 100, Integer.MAX_VALUE, Integer.MIN_VALUE};

  public static void main(String[] args) {
    newObject();
    lots();
    buyers();
    saleWithoutLots();
    startAndLeast();
    soldAndWithdrawn();
    oneClockASecond();
    greatestLimit();
    clocksFillByNumbers();
    changedLimits();
    limitsOfLaterLots();
    sameSecondLesserClock();
    lasts();
    days();
    wrongNumbers();
    fullHall();
    Check.end();
  }

  private static void newObject() {
    QuayClock x = new QuayClock();
    Check.due("NONE", QuayClock.NONE, -1);
    for (int what = 0; what <= 6; what++) {
      Check.due("count(" + what + ") of a new object", x.count(what), 0);
    }
    Check.due("count(7)", x.count(7), -1);
    Check.due("count(-1)", x.count(-1), -1);
    Check.due("day()", x.day(), -1);
    Check.due("told(0, 0)", x.told(0, 0), -1);
    Check.due("bought(0, 0)", x.bought(0, 0), -1);
    Check.due("gets(0)", x.gets(0), -1);
    Check.due("sum(0)", x.sum(0), -1);
    Check.due("without(0)", x.without(0), -1);
    Check.due("load(0, 0)", x.load(0, 0), -1);
    Check.due("stays(0)", x.stays(0), -1);
    Check.due("last(0)", x.last(0), 0);
    Check.due("place()", x.place(), -1);
  }

  private static void lots() {
    QuayClock x = new QuayClock();
    for (int far : FAR) {
      Check.due("lot of boat " + far, x.lot(far, 0, 0, 1, 0), -1);
      Check.due("lot of kind " + far, x.lot(0, far, 0, 1, 0), -1);
      Check.due("lot of size " + far, x.lot(0, 0, far, 1, 0), -1);
      Check.due("lot of boxes " + far, x.lot(0, 0, 0, far, 0), -1);
      Check.due("lot of quality " + far, x.lot(0, 0, 0, 1, far), -1);
    }
    Check.due("lot of boat -1", x.lot(-1, 0, 0, 1, 0), -1);
    Check.due("lot of boat 6", x.lot(6, 0, 0, 1, 0), -1);
    Check.due("lot of kind -1", x.lot(0, -1, 0, 1, 0), -1);
    Check.due("lot of kind 6", x.lot(0, 6, 0, 1, 0), -1);
    Check.due("lot of size -1", x.lot(0, 0, -1, 1, 0), -1);
    Check.due("lot of size 4", x.lot(0, 0, 4, 1, 0), -1);
    Check.due("lot of no boxes", x.lot(0, 0, 0, 0, 0), -1);
    Check.due("lot of 21 boxes", x.lot(0, 0, 0, 21, 0), -1);
    Check.due("lot of quality -1", x.lot(0, 0, 0, 1, -1), -1);
    Check.due("lot of quality 10", x.lot(0, 0, 0, 1, 10), -1);
    Check.due("count(0)", x.count(0), 0);
    Check.due("greatest lot", x.lot(5, 5, 3, 20, 9), 0);
    for (int i = 1; i < 24; i++) {
      Check.due("lot " + i, x.lot(0, 0, 0, 1, 0), i);
    }
    Check.due("a 25th lot", x.lot(0, 0, 0, 1, 0), -1);
    Check.due("count(0) of all", x.count(0), 24);
    x.sale();
    Check.due("lot behind the sale", x.lot(0, 0, 0, 1, 0), -1);
    x.day();
    Check.due("lot on the next day", x.lot(0, 0, 0, 1, 0), 0);
    QuayClock y = new QuayClock();
    y.sale();
    Check.due("lot behind a sale of nothing", y.lot(0, 0, 0, 1, 0), -1);
    Check.due("count(0)", y.count(0), 0);
  }

  private static void buyers() {
    QuayClock x = new QuayClock();
    Check.due("buyer of town -1", x.buyer(-1, 0), -1);
    Check.due("buyer of town 4", x.buyer(4, 0), -1);
    Check.due("buyer with -1", x.buyer(0, -1), -1);
    Check.due("buyer with 1000001", x.buyer(0, 1000001), -1);
    Check.due("buyer with nothing", x.buyer(0, 0), 0);
    Check.due("buyer with most", x.buyer(3, 1000000), 1);
    for (int i = 2; i < 6; i++) {
      Check.due("buyer " + i, x.buyer(1, i), i);
    }
    Check.due("a 7th buyer", x.buyer(0, 0), -1);
    Check.due("count(1)", x.count(1), 6);
    Check.due("bought(1, 1)", x.bought(1, 1), 1000000);
    Check.due("bought(5, 1)", x.bought(5, 1), 5);
    QuayClock y = new QuayClock();
    y.sale();
    Check.due("buyer behind the sale", y.buyer(2, 50), 0);
    Check.due("bought(0, 1)", y.bought(0, 1), 50);
  }

  private static void saleWithoutLots() {
    QuayClock x = new QuayClock();
    x.buyer(0, 10);
    Check.due("sale()", x.sale(), -1);
    Check.due("count(4)", x.count(4), 1);
    Check.due("sale() again", x.sale(), -2);
    for (int what = 0; what <= 4; what++) {
      Check.due("sum(" + what + ")", x.sum(what), 0);
    }
    Check.due("gets(5)", x.gets(5), 0);
    Check.due("without(0)", x.without(0), 0);
    Check.due("stays(3)", x.stays(3), 0);
    Check.due("day()", x.day(), 1);
    Check.due("day() again", x.day(), -1);
    Check.due("count(3)", x.count(3), 1);
    Check.due("count(4)", x.count(4), 0);
  }

  private static void prices(String hall, int start, int least) {
    QuayClock x = new QuayClock();
    x.lot(0, 0, 0, 1, 0);
    Check.text(x, -1, hall);
    Check.due("sale() by '" + hall + "'", x.sale(), start - least);
    Check.due("START by '" + hall + "'", x.told(0, 4), start);
    Check.due("LEAST by '" + hall + "'", x.told(0, 5), least);
    Check.due("price by '" + hall + "'", x.told(0, 1), least);
  }

  private static void startAndLeast() {
    prices("", 100, 1);
    prices("start 0;", 1, 1);
    prices("start 0-7;least 5;", 1, 1);
    prices("start 999;", 999, 1);
    prices("start 1000;least 9999;", 999, 999);
    prices("least 40;", 100, 40);
    prices("least 100;", 100, 100);
    prices("least 101;", 100, 100);
    prices("least 0;", 100, 1);
    prices("least 0-1;", 100, 1);
    prices("start 50 if boat==1;start 60;start 70;", 60, 1);
    prices("start 50 if boat==1;", 100, 1);
    prices("bid 5;start 20;least 3 if 1==2;least 7;least 8;", 20, 7);
  }

  private static void soldAndWithdrawn() {
    QuayClock x = new QuayClock();
    x.buyer(2, 1000);
    x.want(0, 1, 10);
    Check.text(x, 0, "bid 33;");
    Check.text(x, -1, "start 40;least 35 if boat==3;");
    x.lot(2, 1, 0, 3, 0);
    x.lot(3, 1, 0, 3, 0);
    x.lot(2, 0, 0, 1, 0);
    Check.due("told ahead of the sale", x.told(0, 4), -1);
    Check.due("sale()", x.sale(), 39);
    int[][] due = {
      {0, 33, 7, 0, 40, 1, 97, -1}, {-1, 35, 5, 1, 40, 35, 52, -1}, {-1, 1, 39, 2, 40, 1, 0, -1}
    };
    for (int lot = 0; lot < 3; lot++) {
      for (int what = 0; what < 8; what++) {
        Check.due("told(" + lot + ", " + what + ")", x.told(lot, what), due[lot][what]);
      }
    }
    // 99 coins: dues are 2.97, so 2
    int[] sums = {99, 2, 52, 2, 3};
    for (int what = 0; what < 5; what++) {
      Check.due("sum(" + what + ")", x.sum(what), sums[what]);
    }
    int[] gets = {0, 0, 97, 52, 0, 0};
    for (int boat = 0; boat < 6; boat++) {
      Check.due("gets(" + boat + ")", x.gets(boat), gets[boat]);
    }
    Check.due("bought(0, 0)", x.bought(0, 0), 3);
    Check.due("bought(0, 1)", x.bought(0, 1), 901);
    Check.due("bought(0, 2)", x.bought(0, 2), 1);
    Check.due("bought(0, 10)", x.bought(0, 10), 0);
    Check.due("bought(0, 11)", x.bought(0, 11), 3);
    Check.due("bought(0, 20)", x.bought(0, 20), 0);
    Check.due("bought(0, 21)", x.bought(0, 21), 7);
    x.want(0, 1, 2);
    Check.due("bought(0, 21), less than it bought", x.bought(0, 21), 0);
    Check.text(x, -1, "start 77;least 66;");
    Check.due("told(0, 4) with a later text", x.told(0, 4), 40);
    Check.due("told(1, 5) with a later text", x.told(1, 5), 35);
  }

  /** A buyer stops one clock in a second; the others fall by a coin, and a new lot may be ahead. */
  private static void oneClockASecond() {
    QuayClock x = new QuayClock();
    x.buyer(0, 10000);
    x.want(0, 0, 10);
    Check.text(x, 0, "bid 500;");
    for (int i = 0; i < 4; i++) {
      x.lot(0, 0, 0, 1, 0);
    }
    Check.due("sale()", x.sale(), 3);
    int[][] due = {{100, 0, 0}, {98, 2, 1}, {97, 3, 2}, {100, 1, 0}};
    for (int lot = 0; lot < 4; lot++) {
      Check.due("price of " + lot, x.told(lot, 1), due[lot][0]);
      Check.due("second of " + lot, x.told(lot, 2), due[lot][1]);
      Check.due("clock of " + lot, x.told(lot, 3), due[lot][2]);
    }
  }

  private static void greatestLimit() {
    QuayClock x = new QuayClock();
    int[] limits = {150, 200, 200, 120};
    for (int b = 0; b < 4; b++) {
      x.buyer(0, 100000);
      x.want(b, 0, 100);
      Check.text(x, b, "bid " + limits[b] + ";");
    }
    for (int i = 0; i < 3; i++) {
      x.lot(0, 0, 0, 1, 0);
    }
    Check.due("sale()", x.sale(), 0);
    Check.due("buyer of 0", x.told(0, 0), 1);
    Check.due("buyer of 1", x.told(1, 0), 2);
    Check.due("buyer of 2", x.told(2, 0), 0);
    // LEAST is START: a buyer that has stopped a clock can't save the next lot
    QuayClock y = new QuayClock();
    y.buyer(0, 1000);
    y.want(0, 0, 9);
    Check.text(y, 0, "bid 50;");
    Check.text(y, -1, "start 50;least 50;");
    y.lot(0, 0, 0, 1, 0);
    y.lot(0, 0, 0, 1, 0);
    Check.due("sale()", y.sale(), 0);
    Check.due("buyer of 0", y.told(0, 0), 0);
    Check.due("buyer of 1", y.told(1, 0), -1);
  }

  private static void clocksFillByNumbers() {
    QuayClock x = new QuayClock();
    Check.text(x, -1, "start 10 if lot==0; start 5 if lot==1; start 5 if lot==2; start 3;");
    for (int i = 0; i < 7; i++) {
      x.lot(0, 0, 0, 1, 0);
    }
    Check.due("sale()", x.sale(), 10);
    int[][] due = {{9, 0}, {4, 1}, {4, 2}, {7, 1}, {7, 2}, {10, 1}, {10, 2}};
    for (int lot = 0; lot < 7; lot++) {
      Check.due("second of " + lot, x.told(lot, 2), due[lot][0]);
      Check.due("clock of " + lot, x.told(lot, 3), due[lot][1]);
    }
  }

  /** What a buyer bought changes its limits for lots that are on other clocks by then. */
  private static void changedLimits() {
    QuayClock x = new QuayClock();
    x.buyer(0, 100);
    x.want(0, 0, 50);
    Check.text(x, 0, "bid 60 if bought==0; bid 90;");
    x.lot(0, 0, 0, 1, 0);
    x.lot(0, 0, 0, 2, 0);
    x.lot(0, 0, 0, 1, 0);
    // lot 0 for 60 at 40; then 40 are left: 40 for lot 2, at 60; none for lot 1
    x.sale();
    Check.due("price of 0", x.told(0, 1), 60);
    Check.due("second of 2", x.told(2, 2), 60);
    Check.due("price of 2", x.told(2, 1), 40);
    Check.due("buyer of 1", x.told(1, 0), -1);
    Check.due("credit left", x.bought(0, 1), 0);
    Check.due("lots", x.bought(0, 2), 2);
  }

  /** A lot that comes on a clock later meets the limits for itself, also of who bought nothing. */
  private static void limitsOfLaterLots() {
    QuayClock x = new QuayClock();
    x.buyer(0, 1000);
    x.buyer(1, 1000);
    x.want(0, 0, 50);
    x.want(1, 0, 50);
    Check.text(x, 0, "bid 70 if lot==0;");
    Check.text(x, 1, "bid 90 if lot==3; bid 20 if lot==1;");
    for (int i = 0; i < 4; i++) {
      x.lot(0, 0, 0, 1, 0);
    }
    Check.due("sale()", x.sale(), 99);
    int[][] due = {{0, 70, 30}, {1, 20, 80}, {-1, 1, 99}, {1, 90, 41}};
    for (int lot = 0; lot < 4; lot++) {
      for (int what = 0; what < 3; what++) {
        Check.due("told(" + lot + ", " + what + ")", x.told(lot, what), due[lot][what]);
      }
    }
  }

  /** Lots 1 and 3 go in one second: clock 0 has lot 3 by then, clock 1 lot 1. */
  private static void sameSecondLesserClock() {
    QuayClock x = new QuayClock();
    x.buyer(0, 1000);
    x.buyer(0, 1000);
    x.want(0, 0, 50);
    x.want(1, 0, 50);
    Check.text(x, 0, "bid 100 if lot==0; bid 91 if lot==1;");
    Check.text(x, 1, "bid 92 if lot==3;");
    for (int i = 0; i < 4; i++) {
      x.lot(0, 0, 0, 1, 0);
    }
    x.sale();
    Check.due("second of 1", x.told(1, 2), 9);
    Check.due("second of 3", x.told(3, 2), 9);
    x.day();
    Check.due("last(0)", x.last(0), 92);
  }

  private static void lasts() {
    QuayClock x = new QuayClock();
    x.buyer(0, 100000);
    x.buyer(0, 100000);
    x.want(0, 0, 100);
    x.want(1, 0, 100);
    x.want(0, 5, 100);
    Check.text(x, 0, "bid 80 if lot==0; bid 70 if kind==5;");
    Check.text(x, 1, "bid 60 if lot==1;");
    Check.text(x, -1, "start 80 if lot==0; start 60 if lot==1; start 90;");
    x.lot(0, 0, 0, 1, 0);
    x.lot(0, 0, 0, 1, 0);
    x.lot(0, 5, 0, 1, 0);
    x.lot(0, 1, 0, 1, 0);
    x.sale();
    Check.due("second of 0", x.told(0, 2), 0);
    Check.due("second of 1", x.told(1, 2), 0);
    Check.due("last(0) behind the sale", x.last(0), 0);
    x.day();
    Check.due("last(0), of one second the lesser clock's", x.last(0), 80);
    Check.due("last(5)", x.last(5), 70);
    Check.due("last(1), withdrawn", x.last(1), 0);
    Check.due("last(-1)", x.last(-1), 0);
    Check.due("last(6)", x.last(6), 0);
    // the later second counts, not the greater lot: lot 0 goes at 50, lot 1 at 0
    Check.text(x, 0, "bid 30 if lot==0;");
    Check.text(x, 1, "bid 55 if lot==1;");
    Check.text(x, -1, "start 80 if lot==0; start 55;");
    x.lot(0, 0, 0, 1, 0);
    x.lot(0, 0, 0, 1, 0);
    x.lot(0, 5, 0, 1, 0);
    x.sale();
    x.day();
    Check.due("last(0), the later second", x.last(0), 30);
    Check.due("last(5) of the day ahead", x.last(5), 70);
  }

  private static void days() {
    QuayClock x = new QuayClock();
    x.buyer(0, 200);
    x.want(0, 0, 5);
    Check.text(x, 0, "bid 30;");
    Check.text(x, -1, "start 31;");
    x.lorry(0, 10, 1000);
    for (int day = 1; day <= 3; day++) {
      Check.due("day() ahead of the sale", x.day(), -1);
      x.lot(1, 0, 0, 5, 0);
      Check.due("sale()", x.sale(), 1);
      Check.due("bought(0, 1)", x.bought(0, 1), 50);
      Check.due("bought(0, 20)", x.bought(0, 20), 0);
      Check.due("gets(1)", x.gets(1), 146);
      Check.due("day()", x.day(), day);
      Check.due("count(0)", x.count(0), 0);
      Check.due("count(1)", x.count(1), 1);
      Check.due("count(2)", x.count(2), 1);
      Check.due("count(3)", x.count(3), day);
      Check.due("count(5)", x.count(5), 1);
      Check.due("bought(0, 0)", x.bought(0, 0), 0);
      Check.due("bought(0, 1) whole", x.bought(0, 1), 200);
      Check.due("bought(0, 2)", x.bought(0, 2), 0);
      Check.due("bought(0, 10)", x.bought(0, 10), 0);
      Check.due("bought(0, 20) whole", x.bought(0, 20), 5);
      Check.due("gets(1) on the next day", x.gets(1), -1);
      Check.due("sum(0) on the next day", x.sum(0), -1);
      Check.due("told(0, 0) on the next day", x.told(0, 0), -1);
    }
  }

  private static void wrongNumbers() {
    QuayClock x = new QuayClock();
    x.buyer(0, 200);
    x.lot(0, 0, 0, 1, 0);
    x.sale();
    for (int far : FAR) {
      Check.due("told(" + far + ", 0)", x.told(far, 0), -1);
      Check.due("told(0, " + far + ")", x.told(0, far), -1);
      Check.due("bought(" + far + ", 0)", x.bought(far, 0), -1);
      Check.due("bought(0, " + far + ")", x.bought(0, far), -1);
      Check.due("last(" + far + ")", x.last(far), 0);
      Check.due("gets(" + far + ")", x.gets(far), -1);
      Check.due("sum(" + far + ")", x.sum(far), -1);
      Check.due("without(" + far + ")", x.without(far), -1);
      Check.due("count(" + far + ")", x.count(far), -1);
    }
    Check.due("told(1, 0)", x.told(1, 0), -1);
    Check.due("told(-1, 0)", x.told(-1, 0), -1);
    Check.due("told(0, 8)", x.told(0, 8), -1);
    Check.due("gets(-1)", x.gets(-1), -1);
    Check.due("gets(6)", x.gets(6), -1);
    Check.due("sum(-1)", x.sum(-1), -1);
    Check.due("sum(5)", x.sum(5), -1);
    Check.due("bought(1, 0)", x.bought(1, 0), -1);
    int[] none = {-1, 3, 9, 16, 19, 26};
    for (int what : none) {
      Check.due("bought(0, " + what + ")", x.bought(0, what), -1);
    }
  }

  /** The longest sale: 24 lots that fall from 999 to 1, eight times a thousand seconds less eight. */
  private static void fullHall() {
    QuayClock x = new QuayClock();
    Check.text(x, -1, "start 999;");
    for (int i = 0; i < 24; i++) {
      x.lot(i % 6, i % 6, 0, 20, 0);
    }
    Check.due("sale()", x.sale(), 8 * 999 - 1);
    Check.due("sum(2)", x.sum(2), 240);
    Check.due("sum(3)", x.sum(3), 24);
    Check.due("told(23, 3)", x.told(23, 3), 2);
    QuayClock y = new QuayClock();
    y.buyer(0, 1000000);
    Check.text(y, 0, "bid 999;");
    Check.text(y, -1, "start 999;");
    for (int kind = 0; kind < 6; kind++) {
      y.want(0, kind, 500);
    }
    for (int i = 0; i < 24; i++) {
      y.lot(i % 6, i % 6, 0, 20, 0);
    }
    Check.due("sale() to one buyer", y.sale(), 23);
    Check.due("bought(0, 2)", y.bought(0, 2), 24);
    Check.due("bought(0, 0)", y.bought(0, 0), 480);
    Check.due("sum(0)", y.sum(0) + y.bought(0, 1), 1000000);
  }
}
