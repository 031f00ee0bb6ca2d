/** Promises 9 (lorry), 20 (load), 21 (stays) and told(.., 7). */
public final class LorryTest {
  public static void main(String[] args) {
    lorries();
    mostBoxes();
    fewestLots();
    firstByWhoIsIn();
    bySeconds();
    byTowns();
    byNumbers();
    manySmallLots();
    daysAndWrongNumbers();
    Check.end();
  }

  private static void lorries() {
    QuayClock x = new QuayClock();
    Check.due("lorry to -1", x.lorry(-1, 1, 0), -1);
    Check.due("lorry to 4", x.lorry(4, 1, 0), -1);
    Check.due("lorry of 0", x.lorry(0, 0, 0), -1);
    Check.due("lorry of 61", x.lorry(0, 61, 0), -1);
    Check.due("lorry at -1", x.lorry(0, 1, -1), -1);
    Check.due("lorry at 100000", x.lorry(0, 1, 100000), -1);
    Check.due("lorry at min", x.lorry(0, 1, Integer.MIN_VALUE), -1);
    Check.due("count(2)", x.count(2), 0);
    Check.due("least lorry", x.lorry(0, 1, 0), 0);
    Check.due("greatest lorry", x.lorry(3, 60, 99999), 1);
    for (int i = 2; i < 6; i++) {
      Check.due("lorry " + i, x.lorry(1, 1, 1), i);
    }
    Check.due("a 7th lorry", x.lorry(1, 1, 1), -1);
    Check.due("count(2)", x.count(2), 6);
    Check.due("load(0, 0) ahead of the sale", x.load(0, 0), -1);
    Check.due("stays(0) ahead of the sale", x.stays(0), -1);
    x.sale();
    Check.due("load(0, 0) of nothing", x.load(0, 0), 0);
    Check.due("load(0, 1) of nothing", x.load(0, 1), 0);
    Check.due("load(0, 10) of nothing", x.load(0, 10), -1);
  }

  /** A hall whose one buyer, of town 0, buys the lots of these boxes one by one from second 0 on. */
  private static QuayClock sold(int... boxes) {
    QuayClock x = new QuayClock();
    x.buyer(0, 1000000);
    x.want(0, 0, 500);
    Check.text(x, 0, "bid 500;");
    for (int b : boxes) {
      x.lot(0, 0, 0, b, 0);
    }
    x.sale();
    return x;
  }

  private static void loaded(QuayClock x, int lorry, int boxes, int... lots) {
    Check.due("load(" + lorry + ", 0)", x.load(lorry, 0), boxes);
    Check.due("load(" + lorry + ", 1)", x.load(lorry, 1), lots.length);
    for (int i = 0; i < lots.length; i++) {
      Check.due("load(" + lorry + ", " + (10 + i) + ")", x.load(lorry, 10 + i), lots[i]);
      Check.due("told(" + lots[i] + ", 7)", x.told(lots[i], 7), lorry);
    }
    Check.due("load behind its lots", x.load(lorry, 10 + lots.length), -1);
  }

  private static void mostBoxes() {
    QuayClock x = sold(7, 6, 5, 4);
    x.lorry(0, 10, 99999);
    loaded(x, 0, 10, 1, 3);
    Check.due("told(0, 7)", x.told(0, 7), -1);
    Check.due("stays(0)", x.stays(0), 12);
    QuayClock y = sold(7, 6, 5);
    y.lorry(0, 4, 99999);
    loaded(y, 0, 0);
    Check.due("stays(0)", y.stays(0), 18);
    QuayClock z = sold(20, 20, 20, 1);
    z.lorry(0, 60, 99999);
    loaded(z, 0, 60, 0, 1, 2);
  }

  private static void fewestLots() {
    QuayClock w = sold(5, 4, 6);
    w.lorry(0, 10, 99999);
    loaded(w, 0, 10, 1, 2);
    w.lorry(0, 5, 99999);
    loaded(w, 1, 5, 0);
    QuayClock v = sold(2, 1, 1);
    v.lorry(0, 1, 99999);
    loaded(v, 0, 1, 1);
    v.lorry(0, 2, 99999);
    loaded(v, 1, 2, 0);
    v.lorry(0, 2, 99999);
    loaded(v, 2, 1, 2);
    QuayClock x = sold(2, 3, 5, 10);
    x.lorry(0, 10, 99999);
    loaded(x, 0, 10, 3);
    QuayClock y = sold(1, 2, 3, 4, 5, 9);
    y.lorry(0, 10, 99999);
    loaded(y, 0, 10, 0, 5);
  }

  private static void firstByWhoIsIn() {
    QuayClock x = sold(4, 6, 5, 5, 6, 4);
    x.lorry(0, 10, 99999);
    loaded(x, 0, 10, 0, 1);
    QuayClock y = sold(7, 4, 5, 5, 6, 4);
    y.lorry(0, 10, 99999);
    loaded(y, 0, 10, 1, 4);
    QuayClock z = sold(3, 3, 3, 3);
    z.lorry(0, 8, 99999);
    loaded(z, 0, 6, 0, 1);
  }

  /** Lot 0 of 5 boxes is sold at second 0, lot 3 at 1, lot 1 at 2, lot 2 at 3. */
  private static void bySeconds() {
    QuayClock x = sold(5, 5, 5, 5);
    x.lorry(0, 60, 4);
    loaded(x, 0, 0);
    x.lorry(0, 60, 5);
    loaded(x, 1, 5, 0);
    x.lorry(0, 60, 7);
    loaded(x, 2, 10, 1, 3);
    Check.due("stays(0)", x.stays(0), 5);
    x.lorry(0, 60, 8);
    loaded(x, 3, 5, 2);
    Check.due("stays(0) of nothing", x.stays(0), 0);
  }

  private static void byTowns() {
    QuayClock x = new QuayClock();
    x.lorry(1, 60, 99999);
    x.buyer(1, 100000);
    x.buyer(2, 100000);
    x.want(0, 0, 100);
    x.want(1, 1, 100);
    Check.text(x, 0, "bid 500;");
    Check.text(x, 1, "bid 500;");
    x.lot(0, 0, 0, 3, 0);
    x.lot(0, 1, 0, 4, 0);
    x.lot(0, 2, 0, 5, 0);
    x.lot(0, 0, 0, 6, 0);
    x.sale();
    loaded(x, 0, 9, 0, 3);
    Check.due("stays(0)", x.stays(0), 0);
    Check.due("stays(1)", x.stays(1), 0);
    Check.due("stays(2)", x.stays(2), 4);
    Check.due("stays(3)", x.stays(3), 0);
    Check.due("stays(4)", x.stays(4), -1);
    Check.due("stays(-1)", x.stays(-1), -1);
    x.lorry(2, 3, 99999);
    loaded(x, 1, 0);
    x.lorry(2, 4, 99999);
    loaded(x, 2, 4, 1);
    Check.due("stays(2)", x.stays(2), 0);
    Check.due("told(2, 7) withdrawn", x.told(2, 7), -1);
  }

  private static void byNumbers() {
    QuayClock x = new QuayClock();
    x.lorry(0, 8, 99999);
    x.lorry(0, 9, 99999);
    x.lorry(0, 60, 99999);
    x.buyer(0, 100000);
    x.want(0, 0, 100);
    Check.text(x, 0, "bid 500;");
    int[] boxes = {5, 4, 3, 9};
    for (int b : boxes) {
      x.lot(0, 0, 0, b, 0);
    }
    x.sale();
    loaded(x, 0, 8, 0, 2);
    loaded(x, 1, 9, 3);
    loaded(x, 2, 4, 1);
  }

  private static void manySmallLots() {
    int[] ones = new int[24];
    java.util.Arrays.fill(ones, 1);
    QuayClock x = sold(ones);
    x.lorry(0, 20, 99999);
    int[] due = new int[20];
    for (int i = 0; i < 20; i++) {
      due[i] = i;
    }
    loaded(x, 0, 20, due);
    x.lorry(0, 60, 99999);
    loaded(x, 1, 4, 20, 21, 22, 23);
    int[] twenties = new int[24];
    java.util.Arrays.fill(twenties, 20);
    QuayClock y = sold(twenties);
    y.lorry(0, 59, 99999);
    loaded(y, 0, 40, 0, 1);
  }

  private static void daysAndWrongNumbers() {
    QuayClock x = sold(5, 6);
    x.lorry(0, 5, 99999);
    loaded(x, 0, 5, 0);
    int[] wrong = {-1, 2, 9, 11, Integer.MAX_VALUE, Integer.MIN_VALUE};
    for (int what : wrong) {
      Check.due("load(0, " + what + ")", x.load(0, what), -1);
    }
    Check.due("load(1, 0)", x.load(1, 0), -1);
    Check.due("load(-1, 0)", x.load(-1, 0), -1);
    Check.due("load(max, 0)", x.load(Integer.MAX_VALUE, 0), -1);
    x.day();
    Check.due("load(0, 0) on the next day", x.load(0, 0), -1);
    Check.due("stays(0) on the next day", x.stays(0), -1);
    x.lot(0, 0, 0, 4, 0);
    x.lot(0, 0, 0, 5, 0);
    x.sale();
    loaded(x, 0, 5, 1);
    Check.due("told(0, 7)", x.told(0, 7), -1);
    x.day();
    x.sale();
    loaded(x, 0, 0);
  }
}
