/** Promises 2 (feed), 3 (back), 4 (read), 5 (place): the tape, tokens, the grammar and its faults. */
public final class TextTest {
  public static void main(String[] args) {
    tape();
    readAndPlace();
    tokens();
    grammar();
    roomForTokens();
    roomForRules();
    roomForParentheses();
    faultChangesNothing();
    oneAfterAnother();
    Check.end();
  }

  private static void tape() {
    QuayClock x = new QuayClock();
    Check.due("back(0) of nothing", x.back(0), 0);
    Check.due("back(1) of nothing", x.back(1), -1);
    for (int i = 1; i <= 100; i++) {
      Check.due("feed " + i, x.feed(1, 2, 3, 4, 5), 20 * i);
    }
    Check.due("feed 101", x.feed(0, 0, 0, 0, 0), -1);
    Check.due("count(6)", x.count(6), 2000);
    Check.due("back(-1)", x.back(-1), -1);
    Check.due("back(min)", x.back(Integer.MIN_VALUE), -1);
    Check.due("back(max)", x.back(Integer.MAX_VALUE), -1);
    Check.due("back(2001)", x.back(2001), -1);
    Check.due("back(0)", x.back(0), 2000);
    Check.due("back(19)", x.back(19), 1981);
    Check.due("feed onto 1981", x.feed(0, 0, 0, 0, 0), -1);
    Check.due("count(6) behind it", x.count(6), 1981);
    Check.due("back(1)", x.back(1), 1980);
    Check.due("feed onto 1980", x.feed(0, 0, 0, 0, 0), 2000);
    Check.due("back(2000)", x.back(2000), 0);
    bytesInOrder();
  }

  /** 'bid(', '1+2)', '*3if', '4<=5', ';   ': each int's highest byte comes first. */
  private static void bytesInOrder() {
    QuayClock x = new QuayClock();
    x.buyer(0, 1000);
    x.want(0, 0, 1);
    x.lot(0, 0, 0, 1, 0);
    x.feed(0x62696428, 0x312b3229, 0x2a336966, 0x343c3d35, 0x3b202020);
    Check.due("read(0)", x.read(0), 0);
    Check.due("limit(0, 0)", x.limit(0, 0), 9);
    x.feed(0xff696428, 0x312b3229, 0x2a336966, 0x343c3d35, 0x3b202020);
    Check.due("read(0) of a byte 255", x.read(0), 1);
    Check.due("place() of a byte 255", x.place(), 0);
  }

  private static void readAndPlace() {
    QuayClock x = new QuayClock();
    Check.due("place() at first", x.place(), -1);
    Check.put(x, "bid 5");
    Check.due("read(0) without buyers", x.read(0), -2);
    Check.due("read(-2)", x.read(-2), -2);
    Check.due("read(max)", x.read(Integer.MAX_VALUE), -2);
    Check.due("the tape stays", x.count(6), 5);
    Check.due("place() behind -2", x.place(), -1);
    Check.due("read(-1)", x.read(-1), 1);
    Check.due("the tape is empty", x.count(6), 0);
    Check.due("place()", x.place(), 5);
    Check.due("read(3)", x.read(3), -2);
    Check.due("place() behind -2 is the one ahead", x.place(), 5);
    Check.text(x, -1, "start 5;least 2;");
    Check.due("place() without a fault", x.place(), -1);
    Check.due("count(5)", x.count(5), 2);
    Check.due("read(-1) of nothing", x.read(-1), 0);
    Check.due("count(5) of nothing", x.count(5), 0);
  }

  private static void tokens() {
    Check.fault("", 0, -1);
    Check.fault(" \t\n\r ", 0, -1);
    Check.fault("bid\t1\nif\r2<3 ;", 0, -1);
    Check.fault("bid1if2<3and4==5or6!=7;start8;", 0, -1);
    Check.fault("bid 9999;", 0, -1);
    Check.fault("bid 10000;", 1, 4);
    Check.fault("bid 00001;", 1, 4);
    Check.fault("bid 99999999999999999999;", 1, 4);
    Check.fault("bid 0000;", 0, -1);
    Check.fault("bidboat;", 1, 0);
    Check.fault("bid qualityx;", 1, 4);
    Check.fault("bid qualityxy;", 1, 4);
    Check.fault("bid boa;", 1, 4);
    Check.fault("bid boats;", 1, 4);
    Check.fault("Bid 1;", 1, 0);
    Check.fault("bid Boat;", 1, 4);
    Check.fault("bid 1 if 1<==2;", 1, 12);
    Check.fault("bid 1 if 1< =2;", 1, 12);
    Check.fault("bid 1 if 1=2;", 1, 10);
    Check.fault("bid 1 if 1===2;", 1, 12);
    Check.fault("bid 1 if 1!2;", 1, 10);
    Check.fault("bid 1 if 1! =2;", 1, 10);
    Check.fault("bid 1 if 1>2;", 1, 10);
    Check.fault("bid 1.", 1, 5);
    Check.fault("bid 1;\0", 1, 6);
    Check.fault("bid 1;\u000b", 1, 6);
    Check.fault("bid 1;\u00e9", 1, 6);
    Check.fault("bid 1;=", 1, 6);
    for (String var : "boat kind size boxes quality last bought wanted credit lot".split(" ")) {
      Check.fault("bid " + var + ";", 0, -1);
    }
  }

  private static void grammar() {
    Check.fault("bid", 1, 3);
    Check.fault("bid  ", 1, 5);
    Check.fault("bid 1", 1, 5);
    Check.fault("bid 1 ; ;", 1, 8);
    Check.fault(";", 1, 0);
    Check.fault("5;", 1, 0);
    Check.fault("if 1<2;", 1, 0);
    Check.fault("boat;", 1, 0);
    Check.fault("bid bid;", 1, 4);
    Check.fault("bid -1;", 1, 4);
    Check.fault("bid 1 2;", 1, 6);
    Check.fault("bid 1 boat;", 1, 6);
    Check.fault("bid 1+;", 1, 6);
    Check.fault("bid 1+*2;", 1, 6);
    Check.fault("bid 1 < 2;", 1, 6);
    Check.fault("bid 1 and 2;", 1, 6);
    Check.fault("bid 1);", 1, 5);
    Check.fault("bid ();", 1, 5);
    Check.fault("bid (1;", 1, 6);
    Check.fault("bid (1 if 1<2);", 1, 7);
    Check.fault("bid (1))", 1, 7);
    Check.fault("bid (1)(2);", 1, 7);
    Check.fault("bid 1 if;", 1, 8);
    Check.fault("bid 1 if 2;", 1, 10);
    Check.fault("bid 1 if (1<2);", 1, 11);
    Check.fault("bid 1 if (1)<(2);", 0, -1);
    Check.fault("bid 1 if 1<2<3;", 1, 12);
    Check.fault("bid 1 if 1<2 if 2<3;", 1, 13);
    Check.fault("bid 1 if 1<2 and;", 1, 16);
    Check.fault("bid 1 if 1<2 and 3;", 1, 18);
    Check.fault("bid 1 if 1<2 or or 3<4;", 1, 16);
    Check.fault("bid 1 if 1<2", 1, 12);
    Check.fault("bid 1 if 1 and 2<3;", 1, 11);
    Check.fault("bid 1 if 1<2 and 2+3*4<=5 or lot==boat and 1!=(2);", 0, -1);
    Check.fault("bid 1 if 1<(2 and 3);", 1, 14);
    Check.fault("b", 1, 0);
    Check.fault("(", 1, 0);
    Check.fault("start 1;least 2;bid 3;bid 4", 1, 27);
  }

  private static String sumOf(int tokens) {
    StringBuilder s = new StringBuilder("bid 1");
    for (int have = 2; have + 2 <= tokens - 1; have += 2) {
      s.append("+1");
    }
    return s.append(';').toString();
  }

  private static void roomForTokens() {
    String full = "bid 1;" + sumOf(397);
    Check.fault(full, 0, -1);
    Check.fault(full + "bid 1;", 2, full.length());
    Check.fault(full + " \n bid 1;", 2, full.length() + 3);
    Check.fault(full + "boat", 1, full.length());
    Check.fault(full + ".", 1, full.length());
    Check.fault(full + "  ", 0, -1);
    String sum = sumOf(401);
    Check.fault(sum, 2, sum.length() - 1);
    Check.fault(sum.substring(0, sum.length() - 1), 1, sum.length() - 1);
    String openSum = "bid (1" + "+1".repeat(198) + "+";
    Check.fault(openSum + "5", 2, openSum.length());
    Check.fault(openSum + "12345", 1, openSum.length());
    Check.fault(openSum + ")", 1, openSum.length());
    Check.fault(sum.substring(0, sum.length() - 1) + "+1;", 2, sum.length() - 1);
    Check.fault("bid (;" + sum, 1, 5);
  }

  private static void roomForRules() {
    String full = "bid 1;".repeat(10) + "start 1;".repeat(5) + "least 1;".repeat(5);
    Check.fault(full, 0, -1);
    Check.fault(full + " bid ;", 2, full.length() + 1);
    Check.fault(full + "least 1;", 2, full.length());
    Check.fault(full + "if", 1, full.length());
    Check.fault(full + "bids 1;", 1, full.length());
    QuayClock x = new QuayClock();
    Check.text(x, -1, full);
    Check.due("count(5)", x.count(5), 20);
  }

  private static void roomForParentheses() {
    Check.fault("bid ((((((1))))));", 0, -1);
    Check.fault("bid (((((((1)))))));", 2, 10);
    Check.fault("bid ((((((1+(2)))))));", 2, 12);
    Check.fault("bid ((((((1)+1)*(2)))))+((((((3))))));", 0, -1);
    Check.fault("bid 1 if ((((((1))))))<((((((2))))));", 0, -1);
    Check.fault("bid 1 if ((((((1))))))<(((((((2)))))));", 2, 29);
    Check.fault("bid ((((((1(", 1, 11);
    Check.fault("bid ((((((;", 1, 10);
    Check.fault("bid ((((((", 1, 10);
  }

  private static void faultChangesNothing() {
    QuayClock x = new QuayClock();
    x.buyer(0, 1000);
    x.want(0, 0, 10);
    x.lot(0, 0, 0, 1, 0);
    Check.text(x, -1, "start 5;least 2;start 9;");
    Check.text(x, 0, "bid 30;");
    Check.put(x, "bid 40; bid 50; bid");
    Check.due("read(0) with a fault", x.read(0), 1);
    Check.due("limit(0, 0) of the old text", x.limit(0, 0), 30);
    Check.put(x, "start 7; start");
    Check.due("read(-1) with a fault", x.read(-1), 1);
    Check.due("count(5) of the old text", x.count(5), 3);
    Check.text(x, 0, "bid 40;");
    Check.due("limit(0, 0) of the new text", x.limit(0, 0), 40);
    x.sale();
    Check.due("told(0, 4) by the old text", x.told(0, 4), 5);
  }

  /** Nothing of a text that was read, or of one that had a fault, is left for the next one. */
  private static void oneAfterAnother() {
    QuayClock x = new QuayClock();
    x.buyer(0, 1000);
    x.want(0, 0, 10);
    x.lot(0, 0, 0, 1, 0);
    String half = "bid 2+3*(4+(5*6";
    String full = "bid 1" + "+1".repeat(190) + ";";
    for (int i = 0; i < 20; i++) {
      Check.put(x, half);
      x.read(0);
    }
    for (int i = 0; i < 4; i++) {
      Check.put(x, half);
      Check.due("read(0) of a half", x.read(0), 1);
      Check.due("place() of a half", x.place(), half.length());
      Check.put(x, "bid 1 if 2 < 3 and ;");
      Check.due("read(0) of another half", x.read(0), 1);
      Check.text(x, 0, full);
      Check.due("limit(0, 0) of the full one", x.limit(0, 0), 191);
      Check.text(x, 0, "bid 2 if 1==2;".repeat(19) + "bid 8-" + i + "*2;");
      Check.due("limit(0, 0) of the next", x.limit(0, 0), 8 - 2 * i);
      Check.due("rule(0, 0) of the next", x.rule(0, 0), 19);
    }
  }
}
