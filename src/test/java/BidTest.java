/** Promises 8 (want), 13 (limit), 14 (rule) and what a text computes. */
public final class BidTest {
  public static void main(String[] args) {
    values();
    conditions();
    mixedRelations();
    sumsInRelations();
    variables();
    hallVariables();
    wantsAndCredit();
    rules();
    nextTexts();
    noSuchOnes();
    afterTheSale();
    Check.end();
  }

  private static QuayClock hallWithALot() {
    QuayClock x = new QuayClock();
    x.buyer(1, 1000000);
    x.want(0, 3, 100);
    x.lot(5, 3, 2, 1, 7);
    return x;
  }

  private static void value(String e, int due) {
    QuayClock x = hallWithALot();
    Check.text(x, 0, "bid " + e + ";");
    Check.due("limit of " + e, x.limit(0, 0), due);
  }

  private static void values() {
    value("0", 0);
    value("9999", 9999);
    value("0010", 10);
    value("2+3*4", 14);
    value("2*3+4", 10);
    value("(2+3)*4", 20);
    value("10-3-2", 5);
    value("10-(3-2)", 9);
    value("10-3+2", 9);
    value("2*3*4-1*5", 19);
    value("1-2", -1);
    value("0-50", -50);
    value("9-2*3-1", 2);
    value("((((((1+1)*2+1)*2+1)*2+1)*2+1)*2+1)*2", 190);
    value("1+2*(3+4*(5+6*(7+8*(9+10*(11+12*13)))))", 1 + 2 * (3 + 4 * (5 + 6 * (7 + 8 * (9 + 10 * 167)))));
    value("1000*1000", 1000000);
    value("1001*1000", 1000000);
    // 9999 * 9999 * 22 wraps: 2199560022 - 2^32
    value("9999*9999*22", -2095407274);
    value("0-9999*9999*22", 1000000);
  }

  private static void condition(String c, boolean due) {
    QuayClock x = hallWithALot();
    Check.text(x, 0, "bid 7 if " + c + ";");
    Check.due("limit if " + c, x.limit(0, 0), due ? 7 : 0);
    Check.due("rule if " + c, x.rule(0, 0), due ? 0 : -1);
  }

  private static void conditions() {
    condition("1==1", true);
    condition("1==2", false);
    condition("1!=2", true);
    condition("2!=2", false);
    condition("1<2", true);
    condition("2<2", false);
    condition("3<2", false);
    condition("2<=2", true);
    condition("3<=2", false);
    condition("0-1<0", true);
    condition("9999*9999*22<0", true);
    condition("1==2 and 1==1 or 1==1", true);
    condition("1==1 or 1==1 and 1==2", true);
    condition("1==1 and 1==2 or 1==2", false);
    condition("1==2 or 1==1 and 1==2", false);
    condition("1==2 or 1==2 or 1==1", true);
    condition("1==1 and 1==1 and 1==2", false);
    condition("1+1==2*1 and (3-1)*2==4", true);
    condition("2<1+2", true);
    condition("1+2<2", false);
  }

  /** Each relation joined to each other one, by 'and' and by 'or', whichever of the two holds. */
  private static void mixedRelations() {
    String[] holds = {"1==1", "1!=2", "1<2", "1<=1"};
    String[] fails = {"1==2", "1!=1", "2<2", "2<=1"};
    for (int i = 0; i < 4; i++) {
      for (int j = 0; j < 4; j++) {
        condition(holds[i] + " and " + holds[j], true);
        condition(holds[i] + " and " + fails[j], false);
        condition(fails[i] + " and " + holds[j], false);
        condition(fails[i] + " and " + fails[j], false);
        condition(holds[i] + " or " + holds[j], true);
        condition(holds[i] + " or " + fails[j], true);
        condition(fails[i] + " or " + holds[j], true);
        condition(fails[i] + " or " + fails[j], false);
      }
    }
  }

  private static void sumsInRelations() {
    condition("3==1+2", true);
    condition("1==1+2", false);
    condition("3!=1+2", false);
    condition("5<1+2", false);
    condition("3<=1+2", true);
    condition("4<=1+2", false);
    condition("1==4-3", true);
    condition("4!=4-3", true);
    condition("1!=4-3", false);
    condition("6==2*3", true);
    condition("2==2*3", false);
    condition("1+2==3", true);
    condition("1+2!=3", false);
    condition("2*3<6", false);
    condition("4-3<=1", true);
    condition("1+2*3==3*2+1 and 5-2-1!=5-(2-1)", true);
    condition("1==2 or 5<1+2 and 1==1", false);
  }

  private static void variables() {
    value("boat", 5);
    value("kind", 3);
    value("size", 2);
    value("boxes", 1);
    value("quality", 7);
    value("last", 0);
    value("bought", 0);
    value("wanted", 100);
    value("credit", 1000000);
    value("lot", 0);
    QuayClock x = hallWithALot();
    x.lot(0, 3, 0, 4, 0);
    Check.text(x, 0, "bid lot*10+boxes;");
    Check.due("limit(0, 1) by lot and boxes", x.limit(0, 1), 14);
  }

  private static void hallVariables() {
    QuayClock x = hallWithALot();
    x.lot(1, 0, 1, 3, 2);
    Check.text(x, -1,
        "start boat+kind*10+size*100 if bought+wanted+credit==0;least lot+quality+boxes;");
    x.sale();
    Check.due("START of lot 0", x.told(0, 4), 235);
    Check.due("LEAST of lot 0", x.told(0, 5), 8);
    Check.due("START of lot 1", x.told(1, 4), 101);
    Check.due("LEAST of lot 1", x.told(1, 5), 6);
    QuayClock y = hallWithALot();
    Check.text(y, 0, "bid 30;");
    Check.text(y, -1, "start 50+bought+wanted+credit;");
    Check.due("limit ahead of the sale", y.limit(0, 0), 30);
    y.sale();
    Check.due("START, whatever was asked ahead", y.told(0, 4), 50);
    Check.due("bought by then", y.bought(0, 13), 1);
    Check.due("limit behind the sale", y.limit(0, 0), 30);
    y.without(0);
    Check.due("rule behind the sale", y.rule(0, 0), 0);
    y.day();
    y.lot(0, 3, 0, 1, 0);
    y.limit(0, 0);
    y.sale();
    Check.due("START on the next day", y.told(0, 4), 50);
  }

  private static void wantsAndCredit() {
    QuayClock x = new QuayClock();
    Check.due("want without a buyer", x.want(0, 0, 1), false);
    x.buyer(0, 100);
    x.lot(0, 0, 0, 7, 0);
    Check.text(x, 0, "bid 50;");
    Check.due("limit without wants", x.limit(0, 0), 0);
    Check.due("want 6", x.want(0, 0, 6), true);
    Check.due("limit with wants of 6", x.limit(0, 0), 0);
    Check.due("want 7", x.want(0, 0, 7), true);
    Check.due("limit with wants of 7", x.limit(0, 0), 14);
    Check.due("want of another kind", x.want(0, 1, 500), true);
    Check.due("want 501", x.want(0, 0, 501), false);
    Check.due("want -1", x.want(0, 0, -1), false);
    Check.due("want of kind -1", x.want(0, -1, 1), false);
    Check.due("want of kind 6", x.want(0, 6, 1), false);
    Check.due("want of buyer -1", x.want(-1, 0, 1), false);
    Check.due("want of buyer 1", x.want(1, 0, 1), false);
    Check.due("bought(0, 20)", x.bought(0, 20), 7);
    Check.due("bought(0, 21)", x.bought(0, 21), 500);
    Check.due("want 0", x.want(0, 0, 0), true);
    Check.due("limit with wants of 0", x.limit(0, 0), 0);
    Check.text(x, 0, "bid 0-5;");
    Check.due("limit below 0, wants too few", x.limit(0, 0), 0);
    x.want(0, 0, 7);
    Check.due("limit below 0", x.limit(0, 0), -5);
  }

  private static void rules() {
    QuayClock x = hallWithALot();
    x.lot(0, 0, 0, 2, 0);
    Check.due("rule without a text", x.rule(0, 0), -1);
    Check.text(x, 0, "start 1; bid 1 if kind==1; least 5; bid 2 if kind==3; bid 3;");
    Check.due("rule(0, 0)", x.rule(0, 0), 3);
    Check.due("rule(0, 1), though it wants none", x.rule(0, 1), 4);
    Check.due("limit(0, 0)", x.limit(0, 0), 2);
    Check.text(x, 0, "bid 1 if kind==1; start 7;");
    Check.due("rule(0, 0), none holds", x.rule(0, 0), -1);
    Check.due("limit(0, 0), none holds", x.limit(0, 0), 0);
  }

  /** A text in place of a longer one keeps nothing of it, and texts of several buyers are apart. */
  private static void nextTexts() {
    QuayClock x = hallWithALot();
    x.buyer(0, 1000);
    x.want(1, 3, 5);
    Check.text(x, 0, "bid 1 if 1==2; bid 2 if 1==2; bid 3;");
    Check.text(x, 1, "bid 4;");
    Check.text(x, -1, "bid 5; bid 6;");
    Check.text(x, 0, "bid 8 if 1==2;");
    Check.due("limit(0, 0)", x.limit(0, 0), 0);
    Check.due("limit(1, 0)", x.limit(1, 0), 4);
    Check.due("count(5)", x.count(5), 2);
    Check.text(x, 1, "");
    Check.due("limit(1, 0) of an empty text", x.limit(1, 0), 0);
    Check.due("count(5) again", x.count(5), 2);
  }

  private static void noSuchOnes() {
    QuayClock x = hallWithALot();
    Check.text(x, 0, "bid 3;");
    int[] wrong = {-1, -2, 1, 6, 24, Integer.MAX_VALUE, Integer.MIN_VALUE};
    for (int w : wrong) {
      Check.due("limit(" + w + ", 0)", x.limit(w, 0), -1);
      Check.due("limit(0, " + w + ")", x.limit(0, w), -1);
      Check.due("rule(" + w + ", 0)", x.rule(w, 0), -1);
      Check.due("rule(0, " + w + ")", x.rule(0, w), -1);
    }
  }

  private static void afterTheSale() {
    QuayClock x = new QuayClock();
    x.buyer(0, 100);
    x.want(0, 0, 10);
    x.lot(0, 0, 0, 4, 0);
    x.lot(0, 0, 0, 6, 0);
    x.lot(0, 0, 0, 7, 0);
    Check.text(x, 0, "bid 10 if bought==0; bid wanted*1000+bought*100+credit;");
    x.sale();
    Check.due("told(0, 1)", x.told(0, 1), 10);
    // the second lot follows a second later at 9, with 60 coins for 6 boxes; nothing is wanted then
    Check.due("told(1, 1)", x.told(1, 1), 9);
    Check.due("bought(0, 1)", x.bought(0, 1), 6);
    Check.due("limit(0, 0) wants none", x.limit(0, 0), 0);
    Check.due("rule(0, 0)", x.rule(0, 0), 1);
    x.want(0, 0, 14);
    Check.due("limit(0, 0) by the credit left", x.limit(0, 0), 1);
    Check.text(x, 0, "bid bought*0+0-bought;");
    Check.due("limit(0, 0) by bought", x.limit(0, 0), -10);
    x.day();
    Check.due("limit(0, 0) on the next day", x.limit(0, 0), -1);
    x.lot(0, 0, 0, 1, 0);
    Check.text(x, 0, "bid last;");
    Check.due("limit(0, 0) by last", x.limit(0, 0), 9);
  }
}
