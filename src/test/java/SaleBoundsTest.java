/** The boundary cases of part III: prices at START and at LEAST, equal LIMITS, no LOT left, rounding. */
public final class SaleBoundsTest {
  public static void main(String[] args) {
    limitAtStart();
    limitAtLeast();
    startIsLeast();
    limitOfNothing();
    creditAtThePrice();
    wantsAtTheBoxes();
    equalLimits();
    equalLimitsByCredit();
    lesserNumberHasStopped();
    oneStopASecond();
    stopsInTheNextSecond();
    limitAsItIsNow();
    limitRisesByWhatIsBought();
    limitAsIfFirst();
    fewerLotsThanClocks();
    firstThatNoneHad();
    allClocksAtOnce();
    noLotLeft();
    longestSale();
    dues();
    fund();
    toTheLastCoin();
    lastSoldOfAKind();
    lastOfOneSecond();
    lastOfWithdrawn();
    lastIsOfADayAhead();
    nextDay();
    withoutIsFromTheDaysBeginning();
    withoutTheOnlyOne();
    Check.end();
  }

  /** A hall with so many rich buyers that want all kinds; their texts are these. */
  private static QuayClock hall(String hallText, String... texts) {
    QuayClock x = new QuayClock();
    Check.text(x, -1, hallText);
    for (int b = 0; b < texts.length; b++) {
      x.buyer(b % 4, 1000000);
      for (int k = 0; k < 6; k++) {
        x.want(b, k, 500);
      }
      Check.text(x, b, texts[b]);
    }
    return x;
  }

  private static void land(QuayClock x, int lots) {
    for (int i = 0; i < lots; i++) {
      x.lot(0, 0, 0, 1, 0);
    }
  }

  /** BUYER, price, SECOND and CLOCK of a LOT. */
  private static void went(QuayClock x, int lot, int buyer, int price, int second, int clock) {
    Check.due("BUYER of " + lot, x.told(lot, 0), buyer);
    Check.due("price of " + lot, x.told(lot, 1), price);
    Check.due("SECOND of " + lot, x.told(lot, 2), second);
    Check.due("CLOCK of " + lot, x.told(lot, 3), clock);
  }

  private static void oneLot(String hallText, int limit, int buyer, int price, int second) {
    QuayClock x = hall(hallText, "bid " + limit + ";");
    land(x, 1);
    Check.due("sale() by " + hallText + " and " + limit, x.sale(), second);
    went(x, 0, buyer, price, second, 0);
  }

  // 'its price is START'; 'whose LIMIT .. is the price or above'
  private static void limitAtStart() {
    oneLot("start 50;least 40;", 52, 0, 50, 0);
    oneLot("start 50;least 40;", 51, 0, 50, 0);
    oneLot("start 50;least 40;", 50, 0, 50, 0);
    oneLot("start 50;least 40;", 49, 0, 49, 1);
    oneLot("start 50;least 40;", 48, 0, 48, 2);
    oneLot("start 999;", 999, 0, 999, 0);
    oneLot("start 999;", 998, 0, 998, 1);
    oneLot("start 999;", 9999, 0, 999, 0);
  }

  // 'if its price is LEAST, the LOT is WITHDRAWN; else the price is one less'
  private static void limitAtLeast() {
    oneLot("start 50;least 40;", 41, 0, 41, 9);
    oneLot("start 50;least 40;", 40, 0, 40, 10);
    oneLot("start 50;least 40;", 39, -1, 40, 10);
    oneLot("start 50;least 40;", 0, -1, 40, 10);
    oneLot("start 50;", 2, 0, 2, 48);
    oneLot("start 50;", 1, 0, 1, 49);
    oneLot("start 50;", 0, -1, 1, 49);
    oneLot("start 999;", 1, 0, 1, 998);
    oneLot("start 999;", 0, -1, 1, 998);
    oneLot("", 1, 0, 1, 99);
    oneLot("", 0, -1, 1, 99);
  }

  private static void startIsLeast() {
    oneLot("start 50;least 50;", 51, 0, 50, 0);
    oneLot("start 50;least 50;", 50, 0, 50, 0);
    oneLot("start 50;least 50;", 49, -1, 50, 0);
    oneLot("start 1;", 1, 0, 1, 0);
    oneLot("start 1;", 0, -1, 1, 0);
    oneLot("start 2;least 1;", 0, -1, 1, 1);
    oneLot("start 999;least 999;", 999, 0, 999, 0);
    oneLot("start 999;least 999;", 998, -1, 999, 0);
  }

  /** A LIMIT of 0, or below, stops no CLOCK: no price is below 1. */
  private static void limitOfNothing() {
    for (String text : new String[] {"", "bid 0;", "bid 0-1;", "bid 4096*4096*128;", "start 50;"}) {
      QuayClock x = hall("start 3;", text, text);
      land(x, 1);
      Check.due("sale() by '" + text + "'", x.sale(), 2);
      went(x, 0, -1, 1, 2, 0);
    }
    QuayClock y = new QuayClock();
    land(y, 1);
    Check.due("sale() without BUYERS", y.sale(), 99);
    went(y, 0, -1, 1, 99, 0);
  }

  // 'at most what its CREDIT that is left pays for a box of all these BOXES'
  private static void creditAtThePrice() {
    int[][] due = {{500, 50, 0, 0}, {499, 49, 1, 9}, {490, 49, 1, 0}, {489, 48, 2, 9}, {10, 1, 49, 0}};
    for (int[] d : due) {
      QuayClock x = new QuayClock();
      x.buyer(0, d[0]);
      x.want(0, 0, 10);
      Check.text(x, 0, "bid 80;");
      Check.text(x, -1, "start 50;");
      x.lot(0, 0, 0, 10, 0);
      x.sale();
      went(x, 0, 0, d[1], d[2], 0);
      Check.due("CREDIT left of " + d[0], x.bought(0, 1), d[3]);
    }
    QuayClock y = new QuayClock();
    y.buyer(0, 9);
    y.want(0, 0, 10);
    Check.text(y, 0, "bid 80;");
    y.lot(0, 0, 0, 10, 0);
    y.sale();
    went(y, 0, -1, 1, 99, 0);
    Check.due("CREDIT left of 9", y.bought(0, 1), 9);
  }

  private static void wantsAtTheBoxes() {
    for (int wants = 9; wants <= 11; wants++) {
      QuayClock x = hall("start 50;least 50;", "bid 80;");
      x.want(0, 0, wants);
      x.lot(0, 0, 0, 10, 0);
      x.sale();
      Check.due("BUYER, WANTS " + wants, x.told(0, 0), wants < 10 ? -1 : 0);
    }
    QuayClock y = hall("start 50;least 48;", "bid 80;");
    y.want(0, 0, 25);
    y.lot(0, 0, 0, 10, 0);
    y.lot(0, 0, 0, 10, 0);
    y.lot(0, 0, 0, 6, 0);
    y.lot(0, 0, 0, 5, 0);
    y.sale();
    went(y, 0, 0, 50, 0, 0);
    // lot 3 is on clock 0 in the next second, ahead of lot 1; lot 2 has one box too many then
    went(y, 3, 0, 50, 1, 0);
    went(y, 1, 0, 48, 2, 1);
    went(y, 2, -1, 48, 2, 2);
    Check.due("still WANTS", y.bought(0, 20), 0);
    Check.due("BOXES", y.bought(0, 0), 25);
  }

  // 'the one with the greatest LIMIT, of the same the lesser number'
  private static void equalLimits() {
    int[][] limits = {{60, 60, 60}, {59, 60, 60}, {60, 60, 59}, {60, 61, 60}, {60, 60, 61}, {49, 49, 49},
        {49, 50, 50}, {50, 49, 50}, {0, 0, 1}, {1, 1, 1}, {1000, 999, 1000}};
    int[] due = {0, 1, 0, 1, 2, 0, 1, 0, 2, 0, 0};
    for (int i = 0; i < limits.length; i++) {
      int[] l = limits[i];
      QuayClock x = hall("start 50;", "bid " + l[0] + ";", "bid " + l[1] + ";", "bid " + l[2] + ";");
      land(x, 1);
      x.sale();
      int price = Math.min(50, l[due[i]]);
      went(x, 0, due[i], price, 50 - price, 0);
    }
    QuayClock six = hall("start 50;", "bid 60;", "bid 60;", "bid 60;", "bid 60;", "bid 60;", "bid 61;");
    land(six, 3);
    six.sale();
    went(six, 0, 5, 50, 0, 0);
    went(six, 1, 0, 50, 0, 1);
    went(six, 2, 1, 50, 0, 2);
    QuayClock last = hall("start 50;", "bid 1;", "", "bid 2;", "", "", "bid 30;");
    land(last, 1);
    last.sale();
    went(last, 0, 5, 30, 20, 0);
  }

  /** What counts is the LIMIT, not the E: CREDIT makes the greater E the lesser LIMIT. */
  private static void equalLimitsByCredit() {
    for (int credit = 599; credit <= 610; credit++) {
      QuayClock x = new QuayClock();
      x.buyer(0, credit);
      x.buyer(0, 1000000);
      x.want(0, 0, 10);
      x.want(1, 0, 10);
      Check.text(x, 0, "bid 900;");
      Check.text(x, 1, "bid 60;");
      Check.text(x, -1, "start 50;");
      x.lot(0, 0, 0, 10, 0);
      x.sale();
      Check.due("BUYER, CREDIT " + credit, x.told(0, 0), credit < 600 ? 1 : 0);
    }
  }

  // 'of the BUYERS that have stopped no CLOCK in this SECOND'
  private static void lesserNumberHasStopped() {
    QuayClock x = hall("start 50;least 50;", "bid 60;", "bid 60;");
    land(x, 3);
    Check.due("sale()", x.sale(), 0);
    went(x, 0, 0, 50, 0, 0);
    went(x, 1, 1, 50, 0, 1);
    went(x, 2, -1, 50, 0, 2);
    QuayClock y = hall("start 50;least 50;", "bid 60 if lot==1;bid 70 if lot==2;", "bid 60 if lot==2;");
    land(y, 3);
    y.sale();
    went(y, 0, -1, 50, 0, 0);
    went(y, 1, 0, 50, 0, 1);
    went(y, 2, 1, 50, 0, 2);
  }

  private static void oneStopASecond() {
    QuayClock x = hall("start 50;least 49;", "bid 60;");
    land(x, 3);
    Check.due("sale()", x.sale(), 1);
    went(x, 0, 0, 50, 0, 0);
    went(x, 1, 0, 49, 1, 1);
    went(x, 2, -1, 49, 1, 2);
  }

  private static void stopsInTheNextSecond() {
    QuayClock x = hall("start 50;", "bid 60;");
    land(x, 24);
    Check.due("sale()", x.sale(), 23);
    went(x, 0, 0, 50, 0, 0);
    went(x, 3, 0, 50, 1, 0);
    went(x, 23, 0, 50, 21, 0);
    went(x, 1, 0, 28, 22, 1);
    went(x, 2, 0, 27, 23, 2);
    Check.due("LOTS", x.bought(0, 2), 24);
  }

  // 'LIMIT, as it is now': the CREDIT that the purchase of the second ahead has left
  private static void limitAsItIsNow() {
    for (int credit = 98; credit <= 101; credit++) {
      QuayClock x = new QuayClock();
      x.buyer(0, credit);
      x.want(0, 0, 10);
      Check.text(x, 0, "bid 80;");
      Check.text(x, -1, "start 50;");
      land(x, 2);
      x.sale();
      went(x, 0, 0, 50, 0, 0);
      int price = Math.min(49, credit - 50);
      went(x, 1, 0, price, 50 - price, 1);
      Check.due("CREDIT left of " + credit, x.bought(0, 1), credit - 50 - price);
    }
  }

  /** Its purchase may raise a LIMIT, and does so from the next SECOND on, in CLOCKS that fall already. */
  private static void limitRisesByWhatIsBought() {
    QuayClock x = hall("start 50;", "bid 40 if bought==0;bid 90;", "bid 39;");
    x.lot(0, 0, 0, 1, 0);
    x.lot(0, 0, 0, 1, 0);
    x.lot(0, 1, 0, 1, 0);
    x.sale();
    // at second 11 buyer 0 would pay 90 on clock 1 and 40 on clock 2, but stops only one of them
    went(x, 0, 0, 40, 10, 0);
    went(x, 1, 0, 39, 11, 1);
    went(x, 2, 1, 39, 11, 2);
  }

  // Promise 13: 'ahead of THE SALE: as if it were the first one'
  private static void limitAsIfFirst() {
    QuayClock x = new QuayClock();
    x.buyer(0, 100);
    x.want(0, 0, 10);
    Check.text(x, 0, "bid 9 if bought==0;bid 5;");
    for (int day = 0; day < 2; day++) {
      for (int lot = 0; lot < 3; lot++) {
        x.lot(0, 0, 0, 10, 0);
      }
      for (int lot = 0; lot < 3; lot++) {
        Check.due("limit(0, " + lot + ") ahead of the sale", x.limit(0, lot), 9);
        Check.due("rule(0, " + lot + ") ahead of the sale", x.rule(0, lot), 0);
      }
      x.sale();
      for (int lot = 0; lot < 3; lot++) {
        Check.due("limit(0, " + lot + ") behind the sale", x.limit(0, lot), 0);
        Check.due("rule(0, " + lot + ") behind the sale", x.rule(0, lot), 1);
      }
      x.want(0, 0, 20);
      Check.due("limit(0, 0) by the CREDIT that is left", x.limit(0, 0), 1);
      x.want(0, 0, 10);
      x.day();
    }
  }

  // 'each CLOCK, by numbers, that has no LOT'
  private static void fewerLotsThanClocks() {
    for (int lots = 1; lots <= 3; lots++) {
      QuayClock x = hall("start 9;", "");
      land(x, lots);
      Check.due("sale() of " + lots, x.sale(), 8);
      for (int lot = 0; lot < lots; lot++) {
        went(x, lot, -1, 1, 8, lot);
      }
    }
    QuayClock y = hall("start 9;", "");
    land(y, 4);
    Check.due("sale() of 4", y.sale(), 17);
    went(y, 3, -1, 1, 17, 0);
  }

  // 'gets the first one that none had'
  private static void firstThatNoneHad() {
    QuayClock x = hall("start 9 if lot==0;start 3 if lot==1;start 5 if lot==2;start 2;", "");
    land(x, 6);
    Check.due("sale()", x.sale(), 8);
    went(x, 1, -1, 1, 2, 1);
    went(x, 3, -1, 1, 4, 1);
    went(x, 2, -1, 1, 4, 2);
    went(x, 4, -1, 1, 6, 1);
    went(x, 5, -1, 1, 6, 2);
    went(x, 0, -1, 1, 8, 0);
  }

  private static void allClocksAtOnce() {
    QuayClock x = hall("start 9;least 9;", "bid 9;", "bid 9;", "bid 9;");
    land(x, 24);
    Check.due("sale()", x.sale(), 7);
    for (int lot = 0; lot < 24; lot++) {
      went(x, lot, lot % 3, 9, lot / 3, lot % 3);
    }
  }

  // 'So till no LOT is left'; 'the SECOND in which the last LOT was SOLD or WITHDRAWN (NONE: no LOTS)'
  private static void noLotLeft() {
    QuayClock x = hall("start 9;", "bid 9;");
    Check.due("sale() of none", x.sale(), -1);
    Check.due("told(0, 0) of none", x.told(0, 0), -1);
    x.day();
    land(x, 1);
    Check.due("sale() of one", x.sale(), 0);
    x.day();
    Check.due("sale() of none again", x.sale(), -1);
    Check.due("sum(0) of none", x.sum(0), 0);
    QuayClock y = hall("start 9;least 5;", "bid 7 if lot==0;");
    land(y, 2);
    Check.due("sale(): the last is WITHDRAWN", y.sale(), 4);
    QuayClock z = hall("start 9;least 5 if lot==0;", "bid 2 if lot==1;");
    land(z, 2);
    Check.due("sale(): the last is SOLD", z.sale(), 7);
  }

  private static void longestSale() {
    QuayClock x = hall("start 9999;", "");
    land(x, 24);
    Check.due("sale()", x.sale(), 7991);
    for (int lot = 0; lot < 24; lot++) {
      went(x, lot, -1, 1, 999 * (lot / 3 + 1) - 1, lot % 3);
    }
  }

  // 'DUES of a LOT that is SOLD: 3 of 100 of its money (price times BOXES), rounded down'
  private static void dues() {
    int[][] due = {{1, 1, 0}, {33, 1, 0}, {34, 1, 1}, {66, 1, 1}, {67, 1, 2}, {99, 1, 2}, {100, 1, 3},
        {101, 1, 3}, {11, 3, 0}, {17, 2, 1}, {999, 1, 29}, {999, 20, 599}, {998, 20, 598}, {133, 1, 3},
        {134, 1, 4}, {1, 20, 0}, {5, 20, 3}};
    for (int[] d : due) {
      QuayClock x = hall("start " + d[0] + ";", "bid 999;");
      x.lot(4, 0, 0, d[1], 0);
      x.sale();
      int money = d[0] * d[1];
      Check.due("money of " + money, x.sum(0), money);
      Check.due("DUES of " + money, x.sum(1), d[2]);
      Check.due("the rest of " + money, x.told(0, 6), money - d[2]);
      Check.due("gets(4) of " + money, x.gets(4), money - d[2]);
      Check.due("FUND of " + money, x.sum(2), 0);
      Check.due("CREDIT less by " + money, x.bought(0, 1), 1000000 - money);
    }
    QuayClock y = hall("start 33;least 33;", "bid 33;", "bid 33;", "bid 33;");
    land(y, 3);
    y.sale();
    // of each LOT, not of the sum: three times 33 are 99, but 0.99 is 0 three times
    Check.due("DUES of 33 three times", y.sum(1), 0);
    Check.due("gets(0)", y.gets(0), 99);
  }

  // 'half LEAST times BOXES, rounded down, from the FUND'
  private static void fund() {
    int[][] due = {{1, 1, 0}, {1, 2, 1}, {1, 3, 1}, {2, 1, 1}, {3, 1, 1}, {3, 3, 4}, {3, 2, 3}, {999, 1, 499},
        {999, 19, 9490}, {999, 20, 9990}, {1, 20, 10}, {1, 19, 9}};
    for (int[] d : due) {
      QuayClock x = hall("start 999;least " + d[0] + ";", "");
      x.lot(4, 0, 0, d[1], 0);
      x.sale();
      Check.due("FUND for " + d[0] + " times " + d[1], x.sum(2), d[2]);
      Check.due("its BOAT gets", x.told(0, 6), d[2]);
      Check.due("gets(4)", x.gets(4), d[2]);
      Check.due("money", x.sum(0), 0);
      Check.due("DUES", x.sum(1), 0);
      Check.due("LOTS WITHDRAWN", x.sum(3), 1);
      Check.due("BOXES SOLD", x.sum(4), 0);
    }
    QuayClock y = hall("start 1;", "");
    land(y, 3);
    y.sale();
    Check.due("FUND for a half three times", y.sum(2), 0);
  }

  private static void toTheLastCoin() {
    QuayClock x = hall("start 300+lot*7;least 90+lot*3;", "bid 200-lot*9;", "bid 180-lot*2 if boxes<8;");
    for (int i = 0; i < 24; i++) {
      x.lot(i % 6, i % 6, 0, 1 + i * 7 % 20, 0);
    }
    x.sale();
    int all = 0;
    int byLots = 0;
    for (int boat = 0; boat < 6; boat++) {
      all += x.gets(boat);
    }
    for (int lot = 0; lot < 24; lot++) {
      byLots += x.told(lot, 6);
    }
    Check.due("all BOATS get", all, x.sum(0) - x.sum(1) + x.sum(2));
    Check.due("all LOTS bring", byLots, all);
    Check.due("BUYERS paid", 2000000 - x.bought(0, 1) - x.bought(1, 1), x.sum(0));
    Check.due("LOTS", x.bought(0, 2) + x.bought(1, 2) + x.sum(3), 24);
    Check.due("BOXES", x.bought(0, 0) + x.bought(1, 0), x.sum(4));
  }

  // Promise 11: 'the one SOLD last'
  private static void lastSoldOfAKind() {
    QuayClock x = hall("", "bid 70-lot*10 if lot!=1;bid 80;");
    land(x, 3);
    x.sale();
    x.day();
    Check.due("last(0): lot 2 at 50", x.last(0), 50);
    Check.text(x, 0, "bid 40+lot*10;");
    land(x, 3);
    x.sale();
    x.day();
    Check.due("last(0): lot 0 at 40", x.last(0), 40);
  }

  // 'of one SECOND the lesser CLOCK's'
  private static void lastOfOneSecond() {
    QuayClock x = hall("start 60-lot*10;", "bid 60;", "bid 60;", "bid 60;");
    land(x, 3);
    Check.due("sale()", x.sale(), 0);
    x.day();
    Check.due("last(0): CLOCK 0", x.last(0), 60);
    x.lot(0, 1, 0, 1, 0);
    land(x, 2);
    Check.due("sale()", x.sale(), 0);
    x.day();
    Check.due("last(0): CLOCK 1", x.last(0), 50);
    Check.due("last(1)", x.last(1), 60);
    QuayClock y = hall("start 60 if lot==0;start 50 if lot==1;start 40;", "bid 60 if lot==0;bid 49 if lot==1;",
        "bid 40 if lot==3;");
    land(y, 4);
    y.sale();
    went(y, 1, 0, 49, 1, 1);
    went(y, 3, 1, 40, 1, 0);
    y.day();
    Check.due("last(0): the lesser CLOCK has the greater LOT", y.last(0), 40);
    QuayClock z = hall("start 60+lot;", "bid 50+lot;", "bid 50+lot;", "bid 50+lot;");
    land(z, 3);
    Check.due("sale()", z.sale(), 10);
    went(z, 0, 0, 50, 10, 0);
    went(z, 1, 1, 51, 10, 1);
    went(z, 2, 2, 52, 10, 2);
    z.day();
    Check.due("last(0): CLOCK 0 of SECOND 10", z.last(0), 50);
  }

  private static void lastOfWithdrawn() {
    QuayClock x = hall("start 60;", "bid 50 if lot==0;");
    land(x, 2);
    x.lot(0, 1, 0, 1, 0);
    x.sale();
    x.day();
    Check.due("last(0): a LOT WITHDRAWN later does not count", x.last(0), 50);
    Check.due("last(1): none was SOLD", x.last(1), 0);
    x.lot(0, 1, 0, 1, 0);
    x.sale();
    x.day();
    Check.due("last(0) of the day ahead stays", x.last(0), 50);
    Check.due("last(1) is of the next", x.last(1), 50);
    land(x, 3);
    Check.text(x, 0, "");
    x.sale();
    x.day();
    Check.due("last(0) stays, if all are WITHDRAWN", x.last(0), 50);
  }

  // 'on a day ahead': this day's SALE does not change it till the next day
  private static void lastIsOfADayAhead() {
    QuayClock x = hall("start 99;", "bid 30+last;");
    land(x, 3);
    x.sale();
    for (int lot = 0; lot < 3; lot++) {
      Check.due("price of " + lot, x.told(lot, 1), 30 - lot);
    }
    Check.due("limit(0, 0) behind the sale", x.limit(0, 0), 30);
    x.day();
    land(x, 1);
    Check.due("limit(0, 0) on the next day", x.limit(0, 0), 58);
    Check.text(x, -1, "start last+kind;");
    x.sale();
    Check.due("START by LAST", x.told(0, 4), 28);
    QuayClock y = hall("start 99;", "bid 10+last+kind*20;");
    y.lot(0, 3, 1, 1, 0);
    y.lot(3, 1, 0, 1, 0);
    y.sale();
    y.day();
    y.lot(0, 3, 1, 1, 0);
    y.lot(3, 1, 0, 1, 0);
    y.lot(1, 0, 3, 1, 0);
    Check.due("limit(0, 0) by LAST of its KIND", y.limit(0, 0), 10 + 70 + 60);
    Check.due("limit(0, 1) by LAST of its KIND", y.limit(0, 1), 10 + 30 + 20);
    Check.due("limit(0, 2) by LAST of its KIND", y.limit(0, 2), 10);
  }

  // 'no LOTS; CREDITS are whole, nothing is BOUGHT'
  private static void nextDay() {
    QuayClock x = hall("start 50;", "bid 50;");
    x.buyer(0, 50);
    x.want(1, 5, 1);
    Check.text(x, 1, "bid 50;");
    x.lot(0, 5, 0, 1, 0);
    x.lot(0, 5, 0, 1, 0);
    x.sale();
    Check.due("BUYER of 1", x.told(1, 0), 1);
    Check.due("CREDIT left", x.bought(1, 1), 0);
    x.day();
    Check.due("LOTS", x.count(0), 0);
    for (int b = 0; b < 2; b++) {
      Check.due("CREDIT whole", x.bought(b, 1), b == 0 ? 1000000 : 50);
      for (int what : new int[] {0, 2, 10, 11, 12, 13, 14, 15}) {
        Check.due("bought(" + b + ", " + what + ")", x.bought(b, what), 0);
      }
      Check.due("WANTS whole", x.bought(b, 25), b == 0 ? 500 : 1);
    }
    x.lot(0, 5, 0, 1, 0);
    x.lot(0, 5, 0, 1, 0);
    x.sale();
    Check.due("BUYER of 0 on the next day, in SECOND 0 again", x.told(0, 0), 0);
    Check.due("BUYER of 1 on the next day", x.told(1, 0), 1);
  }

  // Promise 19: what is BOUGHT and CREDIT are of the day's beginning there
  private static void withoutIsFromTheDaysBeginning() {
    QuayClock x = new QuayClock();
    x.buyer(0, 50);
    x.buyer(0, 50);
    x.want(0, 0, 1);
    x.want(1, 0, 1);
    Check.text(x, 0, "bid 50;");
    Check.text(x, 1, "bid 40 if bought==0 and wanted==1 and credit==50;");
    Check.text(x, -1, "start 50;");
    land(x, 2);
    x.sale();
    went(x, 1, 1, 40, 10, 1);
    for (int i = 0; i < 3; i++) {
      Check.due("without(0)", x.without(0), 39 + 0);
      Check.due("without(1)", x.without(1), 49 + 0);
    }
    Check.due("CREDIT left of 0", x.bought(0, 1), 0);
    Check.due("CREDIT left of 1", x.bought(1, 1), 10);
  }

  private static void withoutTheOnlyOne() {
    QuayClock x = hall("start 50;least 7;", "bid 50;");
    x.lot(0, 0, 0, 3, 0);
    x.lot(5, 0, 0, 1, 0);
    x.sale();
    Check.due("without(0): from the FUND alone", x.without(0), 10 + 3);
    x.want(0, 0, 0);
    Check.due("without(0): its WANTS do not count", x.without(0), 10 + 3);
    x.buyer(0, 0);
    Check.due("without(1): of WANTS as they are now", x.without(1), 10 + 3);
    x.want(0, 0, 2);
    Check.due("without(1): one BOX is WANTED", x.without(1), 10 + 49);
  }
}
