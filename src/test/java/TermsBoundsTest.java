/**
 * The bounds of 'Terms' and what the promises say of numbers beyond them: for each number the last
 * one that is allowed and the first that is not, on both sides.
 */
public final class TermsBoundsTest {
  /** So far beyond every bound that sums and differences with it wrap. */
  private static final int[] FAR = {-1000000, 1000002, Integer.MAX_VALUE, Integer.MAX_VALUE - 9,
      Integer.MIN_VALUE, Integer.MIN_VALUE + 9, Integer.MIN_VALUE + 20};

  /** A call with one argument that is tried, the others being allowed. */
  private interface Call {
    int of(QuayClock x, int n);
  }

  public static void main(String[] args) {
    newObject();
    twoObjects();
    feed();
    back();
    read();
    numbersOfLots();
    fullDay();
    numbersOfBuyers();
    fullOfBuyers();
    wants();
    numbersOfLorries();
    fullOfLorries();
    sale();
    day();
    told();
    limitAndRule();
    bought();
    last();
    gets();
    sum();
    without();
    load();
    stays();
    count();
    Check.end();
  }

  private static QuayClock ahead() {
    QuayClock x = new QuayClock();
    x.buyer(2, 1000);
    x.want(0, 0, 100);
    Check.text(x, 0, "bid 60;");
    x.lot(1, 0, 0, 3, 0);
    x.lorry(2, 9, 9999);
    return x;
  }

  private static QuayClock behind() {
    QuayClock x = ahead();
    x.sale();
    return x;
  }

  /** The call answers 'due' for 'from' .. 'to', on a new object each, and 'none' for all others. */
  private static void allowed(String name, Call call, int from, int to, int due, int none) {
    for (int n : new int[] {from, from + 1, (from + to) / 2, to - 1, to}) {
      Check.due(name + " of " + n, call.of(new QuayClock(), n), due);
    }
    QuayClock x = new QuayClock();
    Check.due(name + " of " + (from - 1), call.of(x, from - 1), none);
    Check.due(name + " of " + (to + 1), call.of(x, to + 1), none);
    refuses(name, call, x, none);
    Check.due(name + " of " + from + " behind what was refused", call.of(x, from), due);
    Check.due(name + " of " + to + " behind that", call.of(x, to), due + 1);
  }

  private static void refuses(String name, Call call, QuayClock x, int none) {
    for (int far : FAR) {
      Check.due(name + " of " + far, call.of(x, far), none);
    }
  }

  // Promise 1: no LOTS, BUYERS, RULES, LORRIES
  private static void newObject() {
    QuayClock x = new QuayClock();
    for (int what = 0; what <= 6; what++) {
      Check.due("count(" + what + ") at first", x.count(what), 0);
    }
    Check.due("rule(0, 0) at first", x.rule(0, 0), -1);
    Check.due("limit(0, 0) at first", x.limit(0, 0), -1);
    Check.due("place() at first", x.place(), -1);
    for (int k = 0; k < 6; k++) {
      Check.due("last(" + k + ") at first", x.last(k), 0);
    }
    Check.due("sale() at first", x.sale(), -1);
  }

  private static void twoObjects() {
    QuayClock one = behind();
    QuayClock other = new QuayClock();
    for (int what = 0; what <= 6; what++) {
      Check.due("count(" + what + ") of another object", other.count(what), 0);
    }
    Check.text(other, -1, "start 5;");
    other.lot(0, 0, 0, 1, 0);
    other.sale();
    Check.due("told(0, 4) of the one", one.told(0, 4), 100);
    Check.due("told(0, 4) of the other", other.told(0, 4), 5);
  }

  // Promise 2: NONE, and nothing comes, if it would have more than 2,000
  private static void feed() {
    QuayClock x = new QuayClock();
    for (int i = 1; i <= 99; i++) {
      Check.due("feed " + i, x.feed(0x20202020, 0x20202020, 0x20202020, 0x20202020, 0x20202020), 20 * i);
    }
    Check.due("back(1)", x.back(1), 1979);
    Check.due("feed onto 1979", x.feed(0x20202020, 0x20202020, 0x20202020, 0x20202020, 0x20202020), 1999);
    Check.due("feed onto 1999", x.feed(-1, -1, -1, -1, -1), -1);
    Check.due("bytes behind it", x.count(6), 1999);
    Check.due("back(18)", x.back(18), 1981);
    Check.due("feed onto 1981", x.feed(-1, -1, -1, -1, -1), -1);
    Check.due("bytes behind it", x.count(6), 1981);
    Check.due("back(1)", x.back(1), 1980);
    Check.due("feed onto 1980", x.feed(0x20202020, 0x20202020, 0x20202020, 0x20202020, 0x62696420), 2000);
    Check.due("feed onto 2000", x.feed(-1, -1, -1, -1, -1), -1);
    Check.due("bytes behind it", x.count(6), 2000);
    Check.due("read(-1)", x.read(-1), 1);
    Check.due("place(): nothing of what was refused is there", x.place(), 2000);
    Check.due("feed onto the empty tape", x.feed(-1, -1, -1, -1, -1), 20);
  }

  // Promise 3: NONE, and nothing goes, if it has not so many, or n is below 0
  private static void back() {
    QuayClock x = new QuayClock();
    Check.due("back(0) of none", x.back(0), 0);
    Check.due("back(1) of none", x.back(1), -1);
    Check.due("back(-1) of none", x.back(-1), -1);
    Check.put(x, "start 5;bid 4;");
    Check.due("back(15) of 14", x.back(15), -1);
    Check.due("back(-1) of 14", x.back(-1), -1);
    refuses("back", (o, n) -> o.back(n), x, -1);
    Check.due("back(0) of 14", x.back(0), 14);
    Check.due("read(-1)", x.read(-1), 0);
    Check.due("count(5): nothing went", x.count(5), 2);
    Check.put(x, "start 5;bid 4;");
    Check.due("back(6) of 14", x.back(6), 8);
    Check.due("read(-1)", x.read(-1), 0);
    Check.due("count(5): the last six went", x.count(5), 1);
    Check.put(x, "start 5;bid 4;");
    Check.due("back(14) of 14", x.back(14), 0);
    Check.due("back(1) of 0", x.back(1), -1);
    Check.due("read(-1) of nothing", x.read(-1), 0);
    Check.due("count(5) of nothing", x.count(5), 0);
  }

  // Promise 4: -2: no such BUYER (the tape stays)
  private static void read() {
    for (int buyers = 0; buyers <= 6; buyers++) {
      QuayClock x = new QuayClock();
      for (int b = 0; b < buyers; b++) {
        x.buyer(0, 100);
        x.want(b, 0, 1);
      }
      x.lot(0, 0, 0, 1, 0);
      Check.put(x, "bid 3;");
      Check.due("read(" + buyers + ") of as many", x.read(buyers), -2);
      Check.due("read(-2)", x.read(-2), -2);
      refuses("read", (o, n) -> o.read(n), x, -2);
      Check.due("the tape stays", x.count(6), 6);
      Check.due("no text of the hall", x.count(5), 0);
      Check.due("read(" + (buyers - 1) + ")", x.read(buyers - 1), 0);
      Check.due("the tape is empty", x.count(6), 0);
      Check.due("RULES of the hall", x.count(5), buyers == 0 ? 1 : 0);
      for (int b = 0; b < buyers; b++) {
        Check.due("limit(" + b + ", 0)", x.limit(b, 0), b == buyers - 1 ? 3 : 0);
      }
    }
  }

  // Promise 6 and 'a BOAT (0 .. 5), a KIND (0 .. 5), a SIZE (0 .. 3), BOXES (1 .. 20), a QUALITY (0 .. 9)'
  private static void numbersOfLots() {
    allowed("BOAT", (x, n) -> x.lot(n, 0, 0, 1, 0), 0, 5, 0, -1);
    allowed("KIND", (x, n) -> x.lot(0, n, 0, 1, 0), 0, 5, 0, -1);
    allowed("SIZE", (x, n) -> x.lot(0, 0, n, 1, 0), 0, 3, 0, -1);
    allowed("BOXES", (x, n) -> x.lot(0, 0, 0, n, 0), 1, 20, 0, -1);
    allowed("QUALITY", (x, n) -> x.lot(0, 0, 0, 1, n), 0, 9, 0, -1);
    QuayClock x = new QuayClock();
    x.buyer(0, 1000000);
    x.want(0, 5, 500);
    x.want(0, 0, 500);
    Check.due("the least lot", x.lot(0, 0, 0, 1, 0), 0);
    Check.due("the greatest lot", x.lot(5, 5, 3, 20, 9), 1);
    Check.text(x, 0, "bid boat*1000+kind*500+size*100+boxes*10+quality;");
    Check.due("VARS of the least lot", x.limit(0, 0), 10);
    Check.due("VARS of the greatest lot", x.limit(0, 1), 5000 + 2500 + 300 + 200 + 9);
  }

  // Promise 6: NONE, and nothing happens: 24 are there, THE SALE was
  private static void fullDay() {
    QuayClock x = new QuayClock();
    for (int day = 0; day < 2; day++) {
      for (int i = 0; i < 24; i++) {
        Check.due("lot " + i, x.lot(i % 6, i % 6, 0, 1, 0), i);
      }
      Check.due("a 25th lot", x.lot(0, 0, 0, 1, 0), -1);
      Check.due("a 25th lot again", x.lot(5, 5, 3, 20, 9), -1);
      Check.due("count(0)", x.count(0), 24);
      Check.due("sale()", x.sale(), 799);
      Check.due("sum(3)", x.sum(3), 24);
      Check.due("a lot behind it", x.lot(0, 0, 0, 1, 0), -1);
      x.day();
    }
    for (int i = 0; i < 23; i++) {
      x.lot(0, 0, 0, 1, 0);
    }
    Check.due("the 24th lot", x.lot(0, 0, 0, 1, 0), 23);
    QuayClock y = behind();
    Check.due("a lot behind the sale", y.lot(0, 0, 0, 1, 0), -1);
    Check.due("count(0) behind it", y.count(0), 1);
    Check.due("told(1, 4) behind it", y.told(1, 4), -1);
    y.day();
    Check.due("a lot on the next day", y.lot(0, 0, 0, 1, 0), 0);
  }

  // Promise 7 and 'a TOWN (0 .. 3), CREDIT of a day (0 .. 1000000)'
  private static void numbersOfBuyers() {
    allowed("TOWN", (x, n) -> x.buyer(n, 0), 0, 3, 0, -1);
    allowed("CREDIT", (x, n) -> x.buyer(0, n), 0, 1000000, 0, -1);
    QuayClock x = new QuayClock();
    x.buyer(3, 1000000);
    x.buyer(0, 0);
    Check.due("the greatest CREDIT", x.bought(0, 1), 1000000);
    Check.due("the least CREDIT", x.bought(1, 1), 0);
  }

  // Promise 7: NONE, and nothing happens: 6 are there
  private static void fullOfBuyers() {
    QuayClock x = new QuayClock();
    for (int b = 0; b < 6; b++) {
      Check.due("buyer " + b, x.buyer(b % 4, 100 + b), b);
    }
    Check.due("a 7th buyer", x.buyer(0, 5), -1);
    Check.due("count(1)", x.count(1), 6);
    Check.due("bought(6, 1)", x.bought(6, 1), -1);
    for (int b = 0; b < 6; b++) {
      Check.due("bought(" + b + ", 1)", x.bought(b, 1), 100 + b);
    }
    x.sale();
    Check.due("a 7th buyer behind the sale", x.buyer(0, 5), -1);
    x.day();
    Check.due("a 7th buyer on the next day", x.buyer(0, 5), -1);
    Check.due("bought(5, 1)", x.bought(5, 1), 105);
  }

  // Promise 8 and 'BOXES (0 .. 500; 0 at first)'
  private static void wants() {
    QuayClock x = new QuayClock();
    Check.due("want of no buyer", x.want(0, 0, 0), false);
    x.buyer(0, 10);
    x.buyer(1, 10);
    for (int k = 0; k < 6; k++) {
      Check.due("WANTS of " + k + " at first", x.bought(1, 20 + k), 0);
      Check.due("want of " + k, x.want(1, k, 500 - k), true);
    }
    Check.due("want 501", x.want(1, 0, 501), false);
    Check.due("want -1", x.want(1, 0, -1), false);
    Check.due("want of kind 6", x.want(1, 6, 7), false);
    Check.due("want of kind -1", x.want(1, -1, 7), false);
    Check.due("want of buyer 2", x.want(2, 0, 7), false);
    Check.due("want of buyer -1", x.want(-1, 0, 7), false);
    for (int far : FAR) {
      Check.due("want of buyer " + far, x.want(far, 0, 7), false);
      Check.due("want of kind " + far, x.want(1, far, 7), false);
      Check.due("want " + far, x.want(1, 0, far), false);
    }
    for (int k = 0; k < 6; k++) {
      Check.due("WANTS of " + k + " of buyer 1", x.bought(1, 20 + k), 500 - k);
      Check.due("WANTS of " + k + " of buyer 0", x.bought(0, 20 + k), 0);
    }
    Check.due("want 0", x.want(1, 5, 0), true);
    Check.due("WANTS of 5", x.bought(1, 25), 0);
    Check.due("want 1", x.want(1, 5, 1), true);
    Check.due("WANTS of 5", x.bought(1, 25), 1);
    QuayClock y = behind();
    Check.due("want behind the sale", y.want(0, 5, 500), true);
    Check.due("WANTS behind the sale", y.bought(0, 25), 500);
    y.day();
    Check.due("WANTS on the next day", y.bought(0, 25), 500);
  }

  // Promise 9 and 'to a TOWN, so many BOXES (1 .. 60), leaving at a SECOND (0 .. 99999)'
  private static void numbersOfLorries() {
    allowed("TOWN of a lorry", (x, n) -> x.lorry(n, 1, 0), 0, 3, 0, -1);
    allowed("BOXES of a lorry", (x, n) -> x.lorry(0, n, 0), 1, 60, 0, -1);
    allowed("SECOND of a lorry", (x, n) -> x.lorry(0, 1, n), 0, 99999, 0, -1);
  }

  // Promise 9: NONE, and nothing happens: 6 are there
  private static void fullOfLorries() {
    QuayClock x = ahead();
    for (int i = 1; i < 6; i++) {
      Check.due("lorry " + i, x.lorry(0, i, i), i);
    }
    Check.due("a 7th lorry", x.lorry(2, 60, 99999), -1);
    Check.due("count(2)", x.count(2), 6);
    x.sale();
    Check.due("load(0, 0)", x.load(0, 0), 3);
    Check.due("load(5, 0)", x.load(5, 0), 0);
    Check.due("load(6, 0)", x.load(6, 0), -1);
    Check.due("a 7th lorry behind the sale", x.lorry(2, 60, 99999), -1);
    x.day();
    Check.due("a 7th lorry on the next day", x.lorry(2, 60, 99999), -1);
    Check.due("count(2) on the next day", x.count(2), 6);
  }

  // Promise 10: NONE: no LOTS; -2, and nothing happens: it was
  private static void sale() {
    QuayClock x = ahead();
    Check.due("count(4) ahead", x.count(4), 0);
    Check.due("sale()", x.sale(), 40);
    Check.due("count(4) behind", x.count(4), 1);
    Check.due("bought(0, 1)", x.bought(0, 1), 820);
    for (int i = 0; i < 3; i++) {
      Check.due("sale() again", x.sale(), -2);
      Check.due("bought(0, 1) behind it", x.bought(0, 1), 820);
      Check.due("bought(0, 2) behind it", x.bought(0, 2), 1);
    }
    x.day();
    Check.due("sale() of no LOTS", x.sale(), -1);
    Check.due("count(4)", x.count(4), 1);
    Check.due("sale() of no LOTS again", x.sale(), -2);
    Check.due("a lot behind a sale of none", x.lot(0, 0, 0, 1, 0), -1);
    Check.due("day()", x.day(), 2);
  }

  // Promise 11: NONE, and nothing happens: THE SALE was not
  private static void day() {
    QuayClock x = ahead();
    Check.due("day() ahead of the sale", x.day(), -1);
    Check.due("count(0)", x.count(0), 1);
    Check.due("count(3)", x.count(3), 0);
    x.sale();
    Check.due("day()", x.day(), 1);
    Check.due("day() again", x.day(), -1);
    Check.due("count(3)", x.count(3), 1);
    Check.due("last(0)", x.last(0), 60);
    for (int day = 2; day < 40; day++) {
      x.sale();
      Check.due("day() of an empty one", x.day(), day);
      Check.due("last(0) stays", x.last(0), 60);
    }
  }

  // Promise 12: NONE for others
  private static void told() {
    QuayClock x = ahead();
    for (int what = -1; what <= 8; what++) {
      Check.due("told(0, " + what + ") ahead of the sale", x.told(0, what), -1);
    }
    x.sale();
    int[] due = {0, 60, 40, 0, 100, 1, 175, 0};
    for (int what = 0; what <= 7; what++) {
      Check.due("told(0, " + what + ")", x.told(0, what), due[what]);
      Check.due("told(-1, " + what + ")", x.told(-1, what), -1);
      Check.due("told(1, " + what + ")", x.told(1, what), -1);
      Check.due("told(24, " + what + ")", x.told(24, what), -1);
    }
    Check.due("told(0, 8)", x.told(0, 8), -1);
    Check.due("told(0, -1)", x.told(0, -1), -1);
    refuses("told of lot", (o, n) -> o.told(n, 4), x, -1);
    refuses("told of what", (o, n) -> o.told(0, n), x, -1);
    x.day();
    Check.due("told(0, 4) on the next day", x.told(0, 4), -1);
    x.lot(0, 0, 0, 1, 0);
    Check.due("told(0, 4) ahead of the next sale", x.told(0, 4), -1);
  }

  // Promises 13 and 14: NONE: no such ones
  private static void limitAndRule() {
    QuayClock x = new QuayClock();
    for (int b = 0; b < 6; b++) {
      x.buyer(0, 100);
      x.want(b, 0, 9);
      Check.text(x, b, "bid " + (b + 1) + ";");
    }
    for (int i = 0; i < 24; i++) {
      x.lot(0, 0, 0, 1, 0);
    }
    Check.due("limit(0, 0)", x.limit(0, 0), 1);
    Check.due("limit(5, 23)", x.limit(5, 23), 6);
    Check.due("limit(6, 23)", x.limit(6, 23), -1);
    Check.due("limit(5, 24)", x.limit(5, 24), -1);
    Check.due("limit(-1, 0)", x.limit(-1, 0), -1);
    Check.due("limit(0, -1)", x.limit(0, -1), -1);
    Check.due("rule(0, 0)", x.rule(0, 0), 0);
    Check.due("rule(5, 23)", x.rule(5, 23), 0);
    Check.due("rule(6, 23)", x.rule(6, 23), -1);
    Check.due("rule(5, 24)", x.rule(5, 24), -1);
    Check.due("rule(-1, 0)", x.rule(-1, 0), -1);
    Check.due("rule(0, -1)", x.rule(0, -1), -1);
    refuses("limit of buyer", (o, n) -> o.limit(n, 0), x, -1);
    refuses("limit of lot", (o, n) -> o.limit(0, n), x, -1);
    refuses("rule of buyer", (o, n) -> o.rule(n, 0), x, -1);
    refuses("rule of lot", (o, n) -> o.rule(0, n), x, -1);
    x.sale();
    Check.due("limit(5, 23) behind the sale", x.limit(5, 23) != -1, true);
    x.day();
    Check.due("limit(0, 0) of a day without LOTS", x.limit(0, 0), -1);
    Check.due("rule(0, 0) of a day without LOTS", x.rule(0, 0), -1);
  }

  // Promise 15: NONE for others
  private static void bought() {
    QuayClock x = new QuayClock();
    x.buyer(0, 1000000);
    for (int k = 0; k < 6; k++) {
      x.want(0, k, 100 + k);
      x.lot(0, k, 0, 10 + k, 0);
    }
    Check.text(x, 0, "bid 500;");
    x.sale();
    for (int what = -3; what <= 40; what++) {
      int due = -1;
      if (what == 0) {
        due = 75;
      } else if (what == 1) {
        due = 1000000 - x.sum(0);
      } else if (what == 2) {
        due = 6;
      } else if (what >= 10 && what <= 15) {
        due = what;
      } else if (what >= 20 && what <= 25) {
        due = 90;
      }
      Check.due("bought(0, " + what + ")", x.bought(0, what), due);
      Check.due("bought(1, " + what + ")", x.bought(1, what), -1);
      Check.due("bought(-1, " + what + ")", x.bought(-1, what), -1);
    }
    refuses("bought of buyer", (o, n) -> o.bought(n, 1), x, -1);
    refuses("bought of what", (o, n) -> o.bought(0, n), x, -1);
  }

  // Promise 16: LAST of a KIND; 0 for others
  private static void last() {
    QuayClock x = new QuayClock();
    x.buyer(0, 1000000);
    for (int k = 0; k < 6; k++) {
      x.want(0, k, 100);
      x.lot(0, k, 0, 1, 0);
    }
    Check.text(x, 0, "bid 50+kind*kind;");
    x.sale();
    for (int k = 0; k < 6; k++) {
      Check.due("last(" + k + ") behind the sale of the day", x.last(k), 0);
    }
    x.day();
    int[] due = {50, 51, 54, 59, 66, 75};
    for (int k = 0; k < 6; k++) {
      Check.due("last(" + k + ")", x.last(k), due[k]);
    }
    Check.due("last(-1)", x.last(-1), 0);
    Check.due("last(6)", x.last(6), 0);
    refuses("last", (o, n) -> o.last(n), x, 0);
  }

  // Promise 17: NONE: no such BOAT, or it was not
  private static void gets() {
    QuayClock x = ahead();
    for (int boat = -1; boat <= 6; boat++) {
      Check.due("gets(" + boat + ") ahead of the sale", x.gets(boat), -1);
    }
    x.lot(5, 1, 0, 20, 0);
    x.lot(0, 1, 0, 1, 0);
    x.sale();
    int[] due = {0, 175, 0, 0, 0, 10};
    for (int boat = 0; boat <= 5; boat++) {
      Check.due("gets(" + boat + ")", x.gets(boat), due[boat]);
    }
    Check.due("gets(-1)", x.gets(-1), -1);
    Check.due("gets(6)", x.gets(6), -1);
    refuses("gets", (o, n) -> o.gets(n), x, -1);
    x.day();
    Check.due("gets(1) on the next day", x.gets(1), -1);
    x.sale();
    Check.due("gets(1) of a sale of none", x.gets(1), 0);
  }

  // Promise 18: NONE for others, or if it was not
  private static void sum() {
    QuayClock x = ahead();
    for (int what = -1; what <= 5; what++) {
      Check.due("sum(" + what + ") ahead of the sale", x.sum(what), -1);
    }
    x.lot(5, 1, 0, 20, 0);
    x.sale();
    int[] due = {180, 5, 10, 1, 3};
    for (int what = 0; what <= 4; what++) {
      Check.due("sum(" + what + ")", x.sum(what), due[what]);
    }
    Check.due("sum(-1)", x.sum(-1), -1);
    Check.due("sum(5)", x.sum(5), -1);
    refuses("sum", (o, n) -> o.sum(n), x, -1);
    x.day();
    Check.due("sum(0) on the next day", x.sum(0), -1);
    x.sale();
    for (int what = 0; what <= 4; what++) {
      Check.due("sum(" + what + ") of a sale of none", x.sum(what), 0);
    }
  }

  // Promise 19: NONE: no such BUYER, or THE SALE was not
  private static void without() {
    QuayClock x = ahead();
    Check.due("without(0) ahead of the sale", x.without(0), -1);
    x.sale();
    Check.due("without(0)", x.without(0), 1);
    Check.due("without(1)", x.without(1), -1);
    Check.due("without(-1)", x.without(-1), -1);
    refuses("without", (o, n) -> o.without(n), x, -1);
    Check.due("a buyer behind the sale", x.buyer(0, 0), 1);
    Check.due("without(1)", x.without(1), 175);
    x.day();
    Check.due("without(0) on the next day", x.without(0), -1);
    x.sale();
    Check.due("without(0) of a sale of none", x.without(0), 0);
  }

  // Promise 20: NONE for others, or if it was not
  private static void load() {
    QuayClock x = ahead();
    for (int what : new int[] {-1, 0, 1, 2, 9, 10, 11}) {
      Check.due("load(0, " + what + ") ahead of the sale", x.load(0, what), -1);
    }
    x.sale();
    int[][] due = {{-1, -1}, {0, 3}, {1, 1}, {2, -1}, {9, -1}, {10, 0}, {11, -1}, {34, -1}};
    for (int[] d : due) {
      Check.due("load(0, " + d[0] + ")", x.load(0, d[0]), d[1]);
      Check.due("load(1, " + d[0] + ")", x.load(1, d[0]), -1);
      Check.due("load(-1, " + d[0] + ")", x.load(-1, d[0]), -1);
    }
    refuses("load of lorry", (o, n) -> o.load(n, 0), x, -1);
    refuses("load of what", (o, n) -> o.load(0, n), x, -1);
    x.day();
    Check.due("load(0, 0) on the next day", x.load(0, 0), -1);
    x.sale();
    Check.due("load(0, 0) of a sale of none", x.load(0, 0), 0);
    Check.due("load(0, 10) of a sale of none", x.load(0, 10), -1);
  }

  // Promise 21: NONE: no such TOWN, or THE SALE was not
  private static void stays() {
    QuayClock x = new QuayClock();
    for (int town = 0; town < 4; town++) {
      x.buyer(town, 10000);
      x.want(town, town, 100);
      Check.text(x, town, "bid 50;");
      x.lot(0, town, 0, 5 + town, 0);
    }
    for (int town = -1; town <= 4; town++) {
      Check.due("stays(" + town + ") ahead of the sale", x.stays(town), -1);
    }
    x.sale();
    int[] due = {5, 6, 7, 8};
    for (int town = 0; town < 4; town++) {
      Check.due("stays(" + town + ")", x.stays(town), due[town]);
    }
    Check.due("stays(-1)", x.stays(-1), -1);
    Check.due("stays(4)", x.stays(4), -1);
    refuses("stays", (o, n) -> o.stays(n), x, -1);
    x.day();
    Check.due("stays(0) on the next day", x.stays(0), -1);
  }

  // Promise 22: NONE for others
  private static void count() {
    QuayClock x = behind();
    x.day();
    x.lot(0, 0, 0, 1, 0);
    x.lot(0, 0, 0, 1, 0);
    Check.text(x, -1, "bid 1;start 5;least 2;");
    x.lorry(0, 1, 1);
    x.lorry(0, 1, 1);
    x.buyer(0, 0);
    x.feed(1, 2, 3, 4, 5);
    int[] due = {2, 2, 3, 1, 0, 3, 20};
    for (int what = 0; what <= 6; what++) {
      Check.due("count(" + what + ")", x.count(what), due[what]);
    }
    Check.due("count(-1)", x.count(-1), -1);
    Check.due("count(7)", x.count(7), -1);
    refuses("count", (o, n) -> o.count(n), x, -1);
  }
}
