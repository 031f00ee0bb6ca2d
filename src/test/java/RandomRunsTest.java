import java.nio.charset.StandardCharsets;
import java.util.Random;

/**
 * Promises 1 to 22 at once: runs of calls drawn by a fixed seed, each on a QuayClock and on a
 * PlainHall, which must answer alike. Arguments: how many runs (200), the first seed (1).
 */
public final class RandomRunsTest {
  private static final int CALLS = 512;
  private static final String[] VARS = {"boat", "kind", "size", "boxes", "quality", "last", "bought",
      "wanted", "credit", "lot"};

  private final Random random;
  private final long seed;
  private final QuayClock x = new QuayClock();
  private final PlainHall plain = new PlainHall();
  private int calls = 0;

  private RandomRunsTest(long seed) {
    this.seed = seed;
    this.random = new Random(seed);
  }

  public static void main(String[] args) {
    int runs = args.length > 0 ? Integer.parseInt(args[0]) : 200;
    long from = args.length > 1 ? Long.parseLong(args[1]) : 1;
    for (long seed = from; seed < from + runs && !Check.isAnyWrong(); seed++) {
      new RandomRunsTest(seed).run();
    }
    Check.end();
  }

  private void same(String call, int got, int want) {
    calls++;
    Check.due("seed " + seed + " call " + calls + " " + call, got, want);
  }

  private int upTo(int bound) {
    return random.nextInt(bound);
  }

  private boolean chance(int ofHundred) {
    return upTo(100) < ofHundred;
  }

  /** Mostly one of 0 .. bound - 1, now and then one beside it. */
  private int near(int bound) {
    if (chance(95)) {
      return upTo(bound);
    }
    int[] odd = {-1, -2, bound, bound + 1, Integer.MAX_VALUE, Integer.MIN_VALUE, bound + 10};
    return odd[upTo(odd.length)];
  }

  private void run() {
    boolean rich = chance(50);
    int buyers = 1 + upTo(6);
    for (int b = 0; b < buyers; b++) {
      int town = chance(50) ? 0 : near(4);
      int credit = rich ? 20000 + upTo(200000) : upTo(6000);
      same("buyer", x.buyer(town, credit), plain.buyer(town, credit));
      wants(b);
      giveText(b, 1 + upTo(5));
    }
    if (chance(70)) {
      giveText(-1, 1 + upTo(5));
    }
    while (calls < CALLS - 130) {
      aDay();
    }
    while (calls < CALLS - 105) {
      anyCall();
    }
  }

  private void wants(int buyer) {
    for (int kind = 0; kind < 6; kind++) {
      if (chance(60)) {
        int k = kind;
        int boxes = upTo(120);
        same("want", x.want(buyer, k, boxes) ? 1 : 0, plain.want(buyer, k, boxes) ? 1 : 0);
      }
    }
  }

  private void aDay() {
    int kinds = 1 + upTo(6);
    int lots = upTo(26);
    for (int i = 0; i < lots; i++) {
      int boat = near(6);
      int kind = chance(90) ? upTo(kinds) : near(6);
      int size = near(4);
      int boxes = chance(30) ? 1 + upTo(3) : near(21);
      int quality = near(10);
      same("lot", x.lot(boat, kind, size, boxes, quality), plain.lot(boat, kind, size, boxes, quality));
    }
    for (int i = upTo(15); i > 0; i--) {
      anyCall();
    }
    same("sale", x.sale(), plain.sale());
    for (int i = 20 + upTo(60); i > 0 && calls < CALLS - 110; i--) {
      anyCall();
    }
    same("day", x.day(), plain.day());
  }

  private void anyCall() {
    int a = near(6);
    int lot = near(24);
    switch (upTo(24)) {
      case 0, 1, 2, 3, 4 -> {
        int what = near(8);
        same("told " + lot + " " + what, x.told(lot, what), plain.told(lot, what));
      }
      case 5, 6 -> same("limit " + a + " " + lot, x.limit(a, lot), plain.limit(a, lot));
      case 7 -> same("rule " + a + " " + lot, x.rule(a, lot), plain.rule(a, lot));
      case 8 -> {
        int what = near(28);
        same("bought " + a + " " + what, x.bought(a, what), plain.bought(a, what));
      }
      case 9 -> same("last " + a, x.last(a), plain.last(a));
      case 10 -> same("gets " + a, x.gets(a), plain.gets(a));
      case 11 -> same("sum " + a, x.sum(a), plain.sum(a));
      case 12, 13 -> same("without " + a, x.without(a), plain.without(a));
      case 14, 15, 16 -> {
        int what = chance(50) ? near(2) : 10 + near(6);
        same("load " + a + " " + what, x.load(a, what), plain.load(a, what));
      }
      case 17 -> same("stays " + a, x.stays(a), plain.stays(a));
      case 18 -> {
        int what = near(8);
        same("count " + what, x.count(what), plain.count(what));
      }
      case 19 -> {
        int town = chance(70) ? 0 : near(4);
        int boxes = near(61);
        int leaves = chance(80) ? upTo(800) : near(100000);
        same("lorry", x.lorry(town, boxes, leaves), plain.lorry(town, boxes, leaves));
      }
      case 20 -> wants(near(6));
      case 21 -> {
        int town = near(4);
        int credit = chance(90) ? upTo(50000) : near(1000001);
        if (chance(20)) {
          same("buyer", x.buyer(town, credit), plain.buyer(town, credit));
        }
      }
      case 22 -> {
        int n = chance(80) ? upTo(30) : near(2001);
        same("back " + n, x.back(n), plain.back(n));
      }
      default -> {
        if (chance(30)) {
          giveText(near(7) - 1, 1 + upTo(4));
        } else {
          same("place", x.place(), plain.place());
        }
      }
    }
  }

  private void giveText(int who, int rules) {
    String text = chance(3) ? longText() : text(who, rules);
    if (chance(25)) {
      text = spoilt(text);
    }
    byte[] bytes = text.getBytes(StandardCharsets.ISO_8859_1);
    for (int at = 0; at < bytes.length && calls < CALLS - 5; at += 20) {
      int[] w = new int[5];
      for (int i = 0; i < 5; i++) {
        w[i] = Check.four(bytes, at + 4 * i);
      }
      same("feed", x.feed(w[0], w[1], w[2], w[3], w[4]), plain.feed(w));
    }
    int fill = (20 - bytes.length % 20) % 20;
    same("back " + fill, x.back(fill), plain.back(fill));
    same("read " + who + " of '" + text + "'", x.read(who), plain.read(who));
    same("place of '" + text + "'", x.place(), plain.place());
    same("count 5", x.count(5), plain.count(5));
  }

  private String spoilt(String text) {
    StringBuilder s = new StringBuilder(text);
    for (int i = 1 + upTo(2); i > 0 && s.length() > 0; i--) {
      int at = upTo(s.length());
      switch (upTo(4)) {
        case 0 -> s.deleteCharAt(at);
        case 1 -> s.insert(at, "()+-*<=!; 7abif".charAt(upTo(15)));
        case 2 -> s.setCharAt(at, (char) upTo(256));
        default -> s.setLength(at);
      }
    }
    return s.toString();
  }

  private String blank() {
    return chance(90) ? " " : "\t\n\r ".substring(upTo(4)).substring(0, 1) + " ";
  }

  private String text(int who, int rules) {
    StringBuilder s = new StringBuilder();
    for (int i = 0; i < rules; i++) {
      String word = who == -1 ? (chance(50) ? "start" : "least") : "bid";
      s.append(chance(95) ? word : "bid").append(blank()).append(value(who));
      if (chance(60)) {
        s.append(" if ").append(condition());
      }
      s.append(chance(80) ? ";" : " ; ");
    }
    return s.toString();
  }

  private String value(int who) {
    if (chance(60)) {
      int base = who == -1 && chance(30) ? upTo(1200) : upTo(120);
      return base + (chance(50) ? "+" + VARS[upTo(6)] + "*" + upTo(4) : "");
    }
    return sum(upTo(4));
  }

  private String sum(int depth) {
    StringBuilder s = new StringBuilder(product(depth));
    while (chance(35)) {
      s.append(chance(50) ? "+" : " - ").append(product(depth));
    }
    return s.toString();
  }

  private String product(int depth) {
    StringBuilder s = new StringBuilder(unit(depth));
    while (chance(25)) {
      s.append("*").append(unit(depth));
    }
    return s.toString();
  }

  private String unit(int depth) {
    if (depth > 0 && chance(30)) {
      return "(" + sum(depth - 1) + ")";
    }
    return chance(50) ? VARS[upTo(10)] : Integer.toString(upTo(chance(10) ? 10000 : 40));
  }

  private String relation() {
    String[] signs = {"==", "!=", "<", "<="};
    return sum(upTo(2)) + blank() + signs[upTo(4)] + sum(upTo(2));
  }

  private String condition() {
    StringBuilder s = new StringBuilder(relation());
    while (chance(35)) {
      s.append(chance(50) ? " and " : " or ").append(relation());
    }
    return s.toString();
  }

  /** Texts about the limits of tokens, rules and parentheses. */
  private String longText() {
    int n = chance(50) ? 15 + upTo(10) : 190 + upTo(15);
    StringBuilder s = new StringBuilder();
    if (n < 30) {
      for (int i = 0; i < n; i++) {
        s.append("bid ").append(i).append(" if lot==").append(i).append(";");
      }
      return s.toString();
    }
    s.append("bid ").append("(".repeat(upTo(8))).append("1");
    for (int i = 0; i < n; i++) {
      s.append(chance(50) ? "+" : "-").append(i % 7);
    }
    return s.append(";").toString();
  }
}
