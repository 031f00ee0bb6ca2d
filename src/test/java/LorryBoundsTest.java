/** The boundary cases of part IV: BOXES, the SECOND at which a LORRY leaves, equal loads. */
public final class LorryBoundsTest {
  public static void main(String[] args) {
    roomOfALorry();
    fullLorry();
    leavesInTime();
    leavesFirstAndLast();
    secondAndBoxesTogether();
    onNoneAhead();
    townsApart();
    withdrawnLots();
    mostBoxesFirst();
    fewestOfEqualBoxes();
    firstOfEqualLots();
    leastLotThatIsNotInBoth();
    allSets();
    ithLot();
    staysOfAll();
    orderedBehindTheSale();
    refusedBehindTheSale();
    onAllDays();
    Check.end();
  }

  /** A hall whose buyers, of towns 0 to 3, buy the LOTS of their kind, in SECOND 0 where they can. */
  private static QuayClock hall(int buyers) {
    QuayClock x = new QuayClock();
    for (int b = 0; b < buyers; b++) {
      x.buyer(b % 4, 1000000);
      x.want(b, b, 500);
      Check.text(x, b, "bid 500;");
    }
    return x;
  }

  /** One buyer of town 0; the lots of these boxes go one a second: 0, 3, 4, .. , then 1, then 2. */
  private static QuayClock sold(int... boxes) {
    QuayClock x = hall(1);
    for (int b : boxes) {
      x.lot(0, 0, 0, b, 0);
    }
    x.sale();
    return x;
  }

  private static void loaded(String what, QuayClock x, int lorry, int boxes, int... lots) {
    Check.due(what + ": BOXES", x.load(lorry, 0), boxes);
    Check.due(what + ": LOTS", x.load(lorry, 1), lots.length);
    for (int i = 0; i < lots.length; i++) {
      Check.due(what + ": its LOT " + i, x.load(lorry, 10 + i), lots[i]);
      Check.due(what + ": LORRY of " + lots[i], x.told(lots[i], 7), lorry);
    }
    Check.due(what + ": behind its LOTS", x.load(lorry, 10 + lots.length), -1);
  }

  // 'so many BOXES (1 .. 60)'; 'whole'
  private static void roomOfALorry() {
    for (int room = 1; room <= 60; room++) {
      QuayClock x = sold(1);
      x.lorry(0, room, 99999);
      loaded("1 on " + room, x, 0, 1, 0);
      QuayClock y = sold(20);
      y.lorry(0, room, 99999);
      if (room < 20) {
        loaded("20 on " + room, y, 0, 0);
        Check.due("stays(0)", y.stays(0), 20);
      } else {
        loaded("20 on " + room, y, 0, 20, 0);
        Check.due("stays(0)", y.stays(0), 0);
      }
    }
  }

  private static void fullLorry() {
    QuayClock x = sold(20, 20, 20, 20);
    x.lorry(0, 60, 99999);
    loaded("60", x, 0, 60, 0, 1, 2);
    x.lorry(0, 59, 99999);
    loaded("the rest", x, 1, 20, 3);
    QuayClock y = sold(20, 20, 20, 20);
    y.lorry(0, 59, 99999);
    loaded("59", y, 0, 40, 0, 1);
    QuayClock z = sold(20, 20, 19, 1);
    z.lorry(0, 60, 99999);
    loaded("20, 20, 19, 1 on 60", z, 0, 60, 0, 1, 2, 3);
    QuayClock w = sold(20, 20, 19, 1);
    w.lorry(0, 59, 99999);
    loaded("20, 20, 19, 1 on 59", w, 0, 59, 0, 1, 2);
  }

  // 'if SECOND of sale and BOXES together are at most that SECOND'
  private static void leavesInTime() {
    for (int boxes : new int[] {1, 2, 19, 20}) {
      for (int limit : new int[] {100, 99, 50, 1}) {
        QuayClock x = hall(1);
        Check.text(x, 0, "bid " + limit + ";");
        x.lot(0, 0, 0, boxes, 0);
        int second = x.sale();
        Check.due("SECOND by " + limit, second, 100 - limit);
        x.lorry(0, 60, second + boxes - 1);
        loaded(boxes + " at " + second + ", a second too late", x, 0, 0);
        Check.due("stays(0)", x.stays(0), boxes);
        x.lorry(0, 60, second + boxes);
        loaded(boxes + " at " + second + ", in time", x, 1, boxes, 0);
        Check.due("stays(0)", x.stays(0), 0);
      }
    }
  }

  // 'leaving at a SECOND (0 .. 99999)'
  private static void leavesFirstAndLast() {
    QuayClock x = sold(1);
    x.lorry(0, 60, 0);
    loaded("at 0", x, 0, 0);
    x.lorry(0, 60, 1);
    loaded("at 1", x, 1, 1, 0);
    QuayClock y = hall(1);
    Check.text(y, -1, "start 999;");
    Check.text(y, 0, "bid 1 if lot==23;");
    for (int i = 0; i < 24; i++) {
      y.lot(0, 0, 0, 20, 0);
    }
    Check.due("sale()", y.sale(), 7991);
    y.lorry(0, 60, 7991 + 19);
    loaded("at 8010", y, 0, 0);
    y.lorry(0, 60, 7991 + 20);
    loaded("at 8011", y, 1, 20, 23);
    QuayClock z = sold(20);
    z.lorry(0, 60, 99999);
    loaded("at 99999", z, 0, 20, 0);
  }

  /** Of two lots that go in one SECOND the one of fewer BOXES can be in time alone. */
  private static void secondAndBoxesTogether() {
    QuayClock x = hall(1);
    x.buyer(0, 1000000);
    x.want(1, 1, 500);
    Check.text(x, 1, "bid 500;");
    x.lot(0, 0, 0, 9, 0);
    x.lot(0, 1, 0, 8, 0);
    Check.due("sale()", x.sale(), 0);
    x.lorry(0, 60, 7);
    loaded("at 7", x, 0, 0);
    x.lorry(0, 60, 8);
    loaded("at 8", x, 1, 8, 1);
    x.lorry(0, 60, 8);
    loaded("at 8 again", x, 2, 0);
    x.lorry(0, 60, 9);
    loaded("at 9", x, 3, 9, 0);
  }

  // 'LORRIES are LOADED by numbers, each with LOTS that are on none'
  private static void onNoneAhead() {
    QuayClock x = hall(1);
    int[] rooms = {5, 60, 5, 1, 60, 60};
    for (int room : rooms) {
      x.lorry(0, room, 99999);
    }
    for (int b : new int[] {5, 5, 1, 6}) {
      x.lot(0, 0, 0, b, 0);
    }
    x.sale();
    loaded("0", x, 0, 5, 0);
    loaded("1", x, 1, 12, 1, 2, 3);
    for (int lorry = 2; lorry < 6; lorry++) {
      loaded("an empty one", x, lorry, 0);
    }
    Check.due("stays(0)", x.stays(0), 0);
  }

  // 'SOLD to a BUYER of the TOWN'
  private static void townsApart() {
    QuayClock x = hall(6);
    for (int k = 0; k < 6; k++) {
      x.lot(0, k, 0, 2 + k, 0);
    }
    x.sale();
    int[] stays = {2 + 6, 3 + 7, 4, 5};
    for (int town = 0; town < 4; town++) {
      Check.due("stays(" + town + ")", x.stays(town), stays[town]);
    }
    x.lorry(3, 60, 99999);
    loaded("to 3", x, 0, 5, 3);
    x.lorry(1, 60, 99999);
    loaded("to 1, of two BUYERS", x, 1, 10, 1, 5);
    x.lorry(0, 6, 99999);
    loaded("to 0", x, 2, 6, 4);
    Check.due("stays(0)", x.stays(0), 2);
    Check.due("stays(1)", x.stays(1), 0);
    Check.due("stays(2)", x.stays(2), 4);
    Check.due("stays(3)", x.stays(3), 0);
  }

  private static void withdrawnLots() {
    QuayClock x = hall(1);
    x.lot(0, 1, 0, 5, 0);
    x.sale();
    x.lorry(0, 60, 99999);
    loaded("WITHDRAWN", x, 0, 0);
    Check.due("told(0, 7)", x.told(0, 7), -1);
    for (int town = 0; town < 4; town++) {
      Check.due("stays(" + town + ")", x.stays(town), 0);
    }
  }

  // 'so that the most BOXES are on it', even by more LOTS and by later ones
  private static void mostBoxesFirst() {
    QuayClock x = sold(9, 4, 3, 3);
    x.lorry(0, 10, 99999);
    loaded("10 by three", x, 0, 10, 1, 2, 3);
    QuayClock y = sold(9, 10);
    y.lorry(0, 10, 99999);
    loaded("10 by the later", y, 0, 10, 1);
    QuayClock z = sold(10, 11);
    z.lorry(0, 20, 99999);
    loaded("11 on 20", z, 0, 11, 1);
    z.lorry(0, 10, 99999);
    loaded("10 on 10", z, 1, 10, 0);
  }

  // 'of such sets the fewest LOTS'
  private static void fewestOfEqualBoxes() {
    QuayClock x = sold(1, 1, 1, 3);
    x.lorry(0, 3, 99999);
    loaded("3 by one", x, 0, 3, 3);
    x.lorry(0, 3, 99999);
    loaded("3 by three", x, 1, 3, 0, 1, 2);
    QuayClock y = sold(5, 5, 4, 3, 3, 7);
    y.lorry(0, 10, 99999);
    loaded("10 by two", y, 0, 10, 0, 1);
    y.lorry(0, 10, 99999);
    loaded("10 by the other two", y, 1, 10, 3, 5);
    QuayClock z = sold(1, 2, 3, 4, 5, 15, 20, 20);
    z.lorry(0, 55, 99999);
    loaded("55 by three", z, 0, 55, 5, 6, 7);
  }

  // 'of these the first by who is in'
  private static void firstOfEqualLots() {
    QuayClock x = sold(5, 5, 5);
    for (int lorry = 0; lorry < 3; lorry++) {
      x.lorry(0, 5, 99999);
      loaded("equal ones", x, lorry, 5, lorry);
    }
    QuayClock y = sold(3, 7, 4, 6, 5, 5);
    y.lorry(0, 10, 99999);
    loaded("3 and 7", y, 0, 10, 0, 1);
    y.lorry(0, 10, 99999);
    loaded("4 and 6", y, 1, 10, 2, 3);
    y.lorry(0, 10, 99999);
    loaded("5 and 5", y, 2, 10, 4, 5);
  }

  // '(the least LOT that is not in both)': sets that begin alike, or whose sums of numbers tell otherwise
  private static void leastLotThatIsNotInBoth() {
    QuayClock x = sold(2, 4, 3, 3, 4);
    x.lorry(0, 9, 99999);
    loaded("2, 4, 3, not 2, 3, 4", x, 0, 9, 0, 1, 2);
    QuayClock y = sold(1, 6, 6, 6, 9, 6);
    y.lorry(0, 10, 99999);
    loaded("1 and 9, not later ones", y, 0, 10, 0, 4);
    QuayClock z = sold(8, 3, 3, 1, 1, 2, 6, 7);
    z.lorry(0, 9, 99999);
    loaded("8 and the first 1", z, 0, 9, 0, 3);
    z.lorry(0, 9, 99999);
    loaded("3 and 6, not 2 and 7", z, 1, 9, 1, 6);
  }

  /** Every set is tried by hand for each room: of 9 lots 512. */
  private static void allSets() {
    int[][] days = {{1, 2, 3, 4, 5, 6, 7, 8, 9}, {9, 8, 7, 6, 5, 4, 3, 2, 1}, {5, 5, 10, 5, 5, 10, 5, 10, 5},
        {7, 7, 7, 7, 7, 7, 7, 7, 7}, {20, 1, 19, 2, 18, 3, 17, 4, 16}, {6, 4, 11, 9, 13, 2, 8, 15, 3}};
    for (int[] boxes : days) {
      for (int room = 1; room <= 60; room++) {
        QuayClock x = sold(boxes);
        x.lorry(0, room, 99999);
        int best = bestSet(boxes, room);
        Check.due("LOTS on " + room, x.load(0, 1), Integer.bitCount(best));
        for (int lot = 0; lot < boxes.length; lot++) {
          Check.due("LORRY of " + lot + " on " + room, x.told(lot, 7), (best >> lot & 1) - 1);
        }
      }
    }
  }

  private static int bestSet(int[] boxes, int room) {
    int best = 0;
    for (int set = 1; set < 1 << boxes.length; set++) {
      int more = boxesOf(boxes, set) - boxesOf(boxes, best);
      int fewer = Integer.bitCount(best) - Integer.bitCount(set);
      boolean first = (set & Integer.lowestOneBit(set ^ best)) != 0;
      if (boxesOf(boxes, set) <= room && (more > 0 || more == 0 && (fewer > 0 || fewer == 0 && first))) {
        best = set;
      }
    }
    return best;
  }

  private static int boxesOf(int[] boxes, int set) {
    int sum = 0;
    for (int i = 0; i < boxes.length; i++) {
      sum += (set >> i & 1) * boxes[i];
    }
    return sum;
  }

  // Promise 20: '10 + i: its i-th LOT by numbers'
  private static void ithLot() {
    int[] ones = new int[24];
    java.util.Arrays.fill(ones, 1);
    QuayClock x = sold(ones);
    x.lorry(0, 60, 99999);
    Check.due("load(0, 0)", x.load(0, 0), 24);
    Check.due("load(0, 1)", x.load(0, 1), 24);
    Check.due("load(0, 9)", x.load(0, 9), -1);
    for (int i = 0; i < 24; i++) {
      Check.due("load(0, " + (10 + i) + ")", x.load(0, 10 + i), i);
    }
    Check.due("load(0, 34)", x.load(0, 34), -1);
    Check.due("load(0, 35)", x.load(0, 35), -1);
    Check.due("load(0, 2)", x.load(0, 2), -1);
  }

  // Promise 21: 'BOXES SOLD to BUYERS of a TOWN that are on no LORRY'
  private static void staysOfAll() {
    int[] twenties = new int[24];
    java.util.Arrays.fill(twenties, 20);
    QuayClock x = sold(twenties);
    for (int lorry = 0; lorry < 6; lorry++) {
      Check.due("stays(0)", x.stays(0), 480 - 60 * lorry);
      x.lorry(0, 60, 99999);
    }
    Check.due("stays(0) of six full ones", x.stays(0), 120);
  }

  // Promise 9: 'for this and all days'
  private static void orderedBehindTheSale() {
    QuayClock x = hall(1);
    x.lorry(0, 4, 99999);
    x.lot(0, 0, 0, 5, 0);
    x.lot(0, 0, 0, 4, 0);
    x.sale();
    loaded("ahead", x, 0, 4, 1);
    Check.due("told(0, 7)", x.told(0, 7), -1);
    x.lorry(0, 60, 99999);
    loaded("ahead, still", x, 0, 4, 1);
    loaded("behind", x, 1, 5, 0);
  }

  private static void refusedBehindTheSale() {
    QuayClock x = sold(5, 4);
    Check.due("lorry to 4", x.lorry(4, 60, 99999), -1);
    Check.due("lorry of 0", x.lorry(0, 0, 99999), -1);
    Check.due("lorry of 61", x.lorry(0, 61, 99999), -1);
    Check.due("lorry at 100000", x.lorry(0, 60, 100000), -1);
    Check.due("told(0, 7)", x.told(0, 7), -1);
    Check.due("stays(0)", x.stays(0), 9);
    Check.due("load(0, 0)", x.load(0, 0), -1);
    for (int i = 0; i < 6; i++) {
      x.lorry(1, 60, 99999);
    }
    Check.due("a 7th lorry", x.lorry(0, 60, 99999), -1);
    Check.due("told(0, 7)", x.told(0, 7), -1);
    Check.due("stays(0)", x.stays(0), 9);
  }

  private static void onAllDays() {
    QuayClock x = hall(1);
    x.lorry(0, 5, 99999);
    for (int day = 0; day < 3; day++) {
      x.lot(0, 0, 0, 3 + day, 0);
      Check.due("load(0, 0) ahead of the sale", x.load(0, 0), -1);
      Check.due("stays(0) ahead of the sale", x.stays(0), -1);
      x.sale();
      loaded("day " + day, x, 0, 3 + day, 0);
      Check.due("stays(0)", x.stays(0), 0);
      x.day();
    }
    x.lot(0, 0, 0, 6, 0);
    x.sale();
    loaded("6 on 5", x, 0, 0);
    Check.due("told(0, 7)", x.told(0, 7), -1);
    Check.due("stays(0)", x.stays(0), 6);
  }
}
