import java.util.ArrayList;
import java.util.Arrays;
import java.util.List;

/**
 * The document once more, as literally as can be and with nothing of QuayClock's ways: texts as trees
 * read by descent, the sale second by second with every limit computed anew, lorries by trying all
 * sets. RandomRunsTest compares it with QuayClock.
 */
final class PlainHall {
  private interface Tree {
    int value(int[] vars);
  }

  private record Rule(String word, Tree value, Tree condition) {}

  private record Token(String what, int place, boolean ok) {}

  private static final class Fault extends RuntimeException {
    private static final long serialVersionUID = 1;
    final int number;
    final int place;

    Fault(int number, int place) {
      this.number = number;
      this.place = place;
    }
  }

  private static final List<String> VARS = List.of("boat", "kind", "size", "boxes", "quality", "last",
      "bought", "wanted", "credit", "lot");

  /** Reads a text by descent; a token is looked at by what could stand in its place. */
  private static final class Descent {
    final List<Token> tokens;
    final List<Rule> rules = new ArrayList<>();
    int at = 0;
    int open = 0;

    Descent(List<Token> tokens) {
      this.tokens = tokens;
    }

    boolean sees(String... some) {
      Token t = tokens.get(at);
      return t.ok && Arrays.asList(some).contains(t.what);
    }

    Token take() {
      Token t = tokens.get(at);
      if (at >= 400) {
        throw new Fault(2, t.place);
      }
      at++;
      return t;
    }

    Token take(String... some) {
      if (!sees(some)) {
        throw new Fault(1, tokens.get(at).place);
      }
      return take();
    }

    List<Rule> text() {
      while (!sees("END")) {
        rule();
      }
      return rules;
    }

    void rule() {
      if (sees("bid", "start", "least") && rules.size() == 20) {
        throw new Fault(2, tokens.get(at).place);
      }
      String word = take("bid", "start", "least").what;
      Tree value = sum();
      Tree condition = vars -> 1;
      if (sees("if")) {
        take();
        condition = condition();
      }
      take(";");
      rules.add(new Rule(word, value, condition));
    }

    Tree condition() {
      Tree left = all();
      while (sees("or")) {
        take();
        Tree l = left;
        Tree r = all();
        left = v -> l.value(v) != 0 || r.value(v) != 0 ? 1 : 0;
      }
      return left;
    }

    Tree all() {
      Tree left = relation();
      while (sees("and")) {
        take();
        Tree l = left;
        Tree r = relation();
        left = v -> l.value(v) != 0 && r.value(v) != 0 ? 1 : 0;
      }
      return left;
    }

    Tree relation() {
      Tree l = sum();
      String sign = take("==", "!=", "<", "<=").what;
      Tree r = sum();
      return v -> holds(l.value(v), sign, r.value(v)) ? 1 : 0;
    }

    static boolean holds(int l, String sign, int r) {
      return switch (sign) {
        case "==" -> l == r;
        case "!=" -> l != r;
        case "<" -> l < r;
        default -> l <= r;
      };
    }

    Tree sum() {
      Tree left = product();
      while (sees("+", "-")) {
        boolean plus = take().what.equals("+");
        Tree l = left;
        Tree r = product();
        left = plus ? v -> l.value(v) + r.value(v) : v -> l.value(v) - r.value(v);
      }
      return left;
    }

    Tree product() {
      Tree left = unit();
      while (sees("*")) {
        take();
        Tree l = left;
        Tree r = unit();
        left = v -> l.value(v) * r.value(v);
      }
      return left;
    }

    Tree unit() {
      Token t = tokens.get(at);
      if (sees("(")) {
        if (open == 6) {
          throw new Fault(2, t.place);
        }
        take();
        open++;
        Tree inner = sum();
        take(")");
        open--;
        return inner;
      }
      if (t.ok && VARS.contains(t.what)) {
        take();
        int index = VARS.indexOf(t.what);
        return v -> v[index];
      }
      if (t.ok && Character.isDigit(t.what.charAt(0))) {
        take();
        int number = Integer.parseInt(t.what);
        return v -> number;
      }
      throw new Fault(1, t.place);
    }
  }

  private static boolean in(char c, char from, char to) {
    return c >= from && c <= to;
  }

  private static List<Token> tokens(String text) {
    List<Token> found = new ArrayList<>();
    int at = 0;
    while (at < text.length()) {
      char c = text.charAt(at);
      if ("\t\n\r ".indexOf(c) >= 0) {
        at++;
        continue;
      }
      int end = at;
      boolean ok;
      if (in(c, 'a', 'z')) {
        while (end < text.length() && in(text.charAt(end), 'a', 'z')) {
          end++;
        }
        ok = end - at <= 8;
      } else if (in(c, '0', '9')) {
        while (end < text.length() && in(text.charAt(end), '0', '9')) {
          end++;
        }
        ok = end - at <= 4;
      } else if (text.startsWith("==", at) || text.startsWith("!=", at)
          || text.startsWith("<=", at)) {
        end = at + 2;
        ok = true;
      } else {
        end = at + 1;
        ok = ";+-*<()".indexOf(c) >= 0;
      }
      found.add(new Token(text.substring(at, end), at, ok));
      at = end;
    }
    found.add(new Token("END", text.length(), true));
    return found;
  }

  private static final class Lot {
    int boat, kind, size, boxes, quality;
    int buyer = -1, price, second, clock, start, least, gets, lorry = -1;
  }

  private static final class Buyer {
    int town, credit, left, lots;
    int[] wants = new int[6];
    int[] bought = new int[6];
    List<Rule> text = List.of();

    void whole() {
      left = credit;
      lots = 0;
      bought = new int[6];
    }

    Buyer copy() {
      Buyer b = new Buyer();
      b.town = town;
      b.credit = credit;
      b.wants = wants;
      b.text = text;
      b.whole();
      return b;
    }
  }

  private record Lorry(int town, int boxes, int leaves, List<Integer> on) {}

  private final StringBuilder tape = new StringBuilder();
  private int place = -1;
  private List<Rule> hall = List.of();
  private final List<Lot> lots = new ArrayList<>();
  private final List<Buyer> buyers = new ArrayList<>();
  private final List<Lorry> lorries = new ArrayList<>();
  private final int[] lasts = new int[6];
  private int day = 0;
  private boolean sold = false;

  int feed(int... fives) {
    if (tape.length() + 20 > 2000) {
      return -1;
    }
    for (int five : fives) {
      for (int i = 3; i >= 0; i--) {
        tape.append((char) (five >> 8 * i & 255));
      }
    }
    return tape.length();
  }

  int back(int n) {
    if (n < 0 || tape.length() < n) {
      return -1;
    }
    tape.setLength(tape.length() - n);
    return tape.length();
  }

  int read(int buyer) {
    if (buyer < -1 || buyer >= buyers.size()) {
      return -2;
    }
    String text = tape.toString();
    tape.setLength(0);
    place = -1;
    try {
      List<Rule> rules = new Descent(tokens(text)).text();
      if (buyer == -1) {
        hall = rules;
      } else {
        buyers.get(buyer).text = rules;
      }
      return 0;
    } catch (Fault f) {
      place = f.place;
      return f.number;
    }
  }

  int place() {
    return place;
  }

  int lot(int boat, int kind, int size, int boxes, int quality) {
    boolean good = boat >= 0 && boat <= 5 && kind >= 0 && kind <= 5 && size >= 0 && size <= 3
        && boxes >= 1 && boxes <= 20 && quality >= 0 && quality <= 9;
    if (!good || sold || lots.size() == 24) {
      return -1;
    }
    Lot l = new Lot();
    l.boat = boat;
    l.kind = kind;
    l.size = size;
    l.boxes = boxes;
    l.quality = quality;
    lots.add(l);
    return lots.size() - 1;
  }

  int buyer(int town, int credit) {
    if (buyers.size() == 6 || town < 0 || town > 3 || credit < 0 || credit > 1000000) {
      return -1;
    }
    Buyer b = new Buyer();
    b.town = town;
    b.credit = credit;
    b.whole();
    buyers.add(b);
    return buyers.size() - 1;
  }

  boolean want(int buyer, int kind, int boxes) {
    if (buyer < 0 || buyer >= buyers.size() || kind < 0 || kind > 5 || boxes < 0 || boxes > 500) {
      return false;
    }
    buyers.get(buyer).wants[kind] = boxes;
    return true;
  }

  int lorry(int town, int boxes, int leaves) {
    boolean good = town >= 0 && town <= 3 && boxes >= 1 && boxes <= 60 && leaves >= 0
        && leaves <= 99999;
    if (!good || lorries.size() == 6) {
      return -1;
    }
    lorries.add(new Lorry(town, boxes, leaves, new ArrayList<>()));
    if (sold) {
      loadAll();
    }
    return lorries.size() - 1;
  }

  private int[] vars(Lot l, int number, Buyer b) {
    int[] v = {l.boat, l.kind, l.size, l.boxes, l.quality, lasts[l.kind], 0, 0, 0, number};
    if (b != null) {
      v[6] = b.bought[l.kind];
      v[7] = Math.max(0, b.wants[l.kind] - b.bought[l.kind]);
      v[8] = b.left;
    }
    return v;
  }

  private static int first(List<Rule> text, String word, int[] vars) {
    for (int i = 0; i < text.size(); i++) {
      if (text.get(i).word.equals(word) && text.get(i).condition.value(vars) != 0) {
        return i;
      }
    }
    return -1;
  }

  private int limitOf(Buyer b, Lot l, int number) {
    int[] v = vars(l, number, b);
    int r = first(b.text, "bid", v);
    int limit = r < 0 ? 0 : b.text.get(r).value.value(v);
    if (v[7] < l.boxes) {
      limit = 0;
    }
    return Math.min(limit, b.left / l.boxes);
  }

  private int hallValue(String word, Lot l, int number, int otherwise) {
    int[] v = vars(l, number, null);
    int r = first(hall, word, v);
    return r < 0 ? otherwise : hall.get(r).value.value(v);
  }

  /** The sale of the lots with the buyers, of whom one may be null; answers the last second. */
  private int run(List<Lot> all, Buyer[] who) {
    int[] on = {-1, -1, -1};
    int[] price = new int[3];
    int next = 0;
    int done = 0;
    int second = 0;
    for (; done < all.size(); second++) {
      for (int c = 0; c < 3; c++) {
        if (on[c] < 0 && next < all.size()) {
          Lot l = all.get(next);
          l.start = Math.max(1, Math.min(999, hallValue("start", l, next, 100)));
          l.least = Math.max(1, Math.min(l.start, hallValue("least", l, next, 1)));
          l.clock = c;
          on[c] = next++;
          price[c] = l.start;
        }
      }
      boolean[] stopped = new boolean[who.length];
      boolean[] soldNow = new boolean[3];
      for (int c = 0; c < 3; c++) {
        if (on[c] < 0) {
          continue;
        }
        Lot l = all.get(on[c]);
        int best = -1;
        for (int b = 0; b < who.length; b++) {
          if (who[b] == null || stopped[b] || limitOf(who[b], l, on[c]) < price[c]) {
            continue;
          }
          if (best < 0 || limitOf(who[b], l, on[c]) > limitOf(who[best], l, on[c])) {
            best = b;
          }
        }
        if (best >= 0) {
          stopped[best] = true;
          soldNow[c] = true;
          l.buyer = best;
          l.price = price[c];
          l.second = second;
          int money = price[c] * l.boxes;
          l.gets = money - (int) Math.floor(money * 3 / 100.0);
          who[best].left -= money;
          who[best].lots++;
          who[best].bought[l.kind] += l.boxes;
        }
      }
      for (int c = 0; c < 3; c++) {
        if (on[c] < 0) {
          continue;
        }
        Lot l = all.get(on[c]);
        if (soldNow[c]) {
          on[c] = -1;
          done++;
        } else if (price[c] == l.least) {
          l.buyer = -1;
          l.price = l.least;
          l.second = second;
          l.gets = l.least * l.boxes / 2;
          on[c] = -1;
          done++;
        } else {
          price[c]--;
        }
      }
    }
    return second - 1;
  }

  int sale() {
    if (sold) {
      return -2;
    }
    sold = true;
    int end = run(lots, buyers.toArray(new Buyer[0]));
    loadAll();
    return lots.isEmpty() ? -1 : end;
  }

  private void loadAll() {
    for (Lot l : lots) {
      l.lorry = -1;
    }
    for (int n = 0; n < lorries.size(); n++) {
      Lorry lorry = lorries.get(n);
      List<Integer> can = new ArrayList<>();
      for (int i = 0; i < lots.size(); i++) {
        Lot l = lots.get(i);
        if (l.lorry < 0 && l.buyer >= 0 && buyers.get(l.buyer).town == lorry.town
            && l.second + l.boxes <= lorry.leaves) {
          can.add(i);
        }
      }
      List<Integer> best = new ArrayList<>();
      trySets(can, 0, lorry.boxes, new ArrayList<>(), best);
      lorry.on.clear();
      lorry.on.addAll(best);
      for (int i : best) {
        lots.get(i).lorry = n;
      }
    }
  }

  private int boxes(List<Integer> set) {
    int sum = 0;
    for (int i : set) {
      sum += lots.get(i).boxes;
    }
    return sum;
  }

  private void trySets(List<Integer> can, int at, int room, List<Integer> set, List<Integer> best) {
    if (at == can.size()) {
      if (isBetter(set, best)) {
        best.clear();
        best.addAll(set);
      }
      return;
    }
    int lot = can.get(at);
    if (lots.get(lot).boxes <= room) {
      set.add(lot);
      trySets(can, at + 1, room - lots.get(lot).boxes, set, best);
      set.remove(set.size() - 1);
    }
    trySets(can, at + 1, room, set, best);
  }

  private boolean isBetter(List<Integer> set, List<Integer> best) {
    if (boxes(set) != boxes(best)) {
      return boxes(set) > boxes(best);
    }
    if (set.size() != best.size()) {
      return set.size() < best.size();
    }
    for (int i = 0; i < lots.size(); i++) {
      if (set.contains(i) != best.contains(i)) {
        return set.contains(i);
      }
    }
    return false;
  }

  int day() {
    if (!sold) {
      return -1;
    }
    for (int k = 0; k < 6; k++) {
      Lot latest = null;
      for (Lot l : lots) {
        if (l.kind == k && l.buyer >= 0 && (latest == null || l.second > latest.second
            || l.second == latest.second && l.clock < latest.clock)) {
          latest = l;
        }
      }
      if (latest != null) {
        lasts[k] = latest.price;
      }
    }
    lots.clear();
    for (Buyer b : buyers) {
      b.whole();
    }
    sold = false;
    return ++day;
  }

  int told(int lot, int what) {
    if (!sold || lot < 0 || lot >= lots.size() || what < 0 || what > 7) {
      return -1;
    }
    Lot l = lots.get(lot);
    return new int[] {l.buyer, l.price, l.second, l.clock, l.start, l.least, l.gets, l.lorry}[what];
  }

  private boolean known(int buyer, int lot) {
    return buyer >= 0 && buyer < buyers.size() && lot >= 0 && lot < lots.size();
  }

  int limit(int buyer, int lot) {
    return known(buyer, lot) ? limitOf(buyers.get(buyer), lots.get(lot), lot) : -1;
  }

  int rule(int buyer, int lot) {
    if (!known(buyer, lot)) {
      return -1;
    }
    Buyer b = buyers.get(buyer);
    return first(b.text, "bid", vars(lots.get(lot), lot, b));
  }

  int bought(int buyer, int what) {
    if (buyer < 0 || buyer >= buyers.size()) {
      return -1;
    }
    Buyer b = buyers.get(buyer);
    if (what >= 10 && what <= 15) {
      return b.bought[what - 10];
    }
    if (what >= 20 && what <= 25) {
      return Math.max(0, b.wants[what - 20] - b.bought[what - 20]);
    }
    return what == 0 ? Arrays.stream(b.bought).sum() : what == 1 ? b.left : what == 2 ? b.lots : -1;
  }

  int last(int kind) {
    return kind >= 0 && kind < 6 ? lasts[kind] : 0;
  }

  int gets(int boat) {
    if (!sold || boat < 0 || boat > 5) {
      return -1;
    }
    return lots.stream().filter(l -> l.boat == boat).mapToInt(l -> l.gets).sum();
  }

  int sum(int what) {
    if (!sold) {
      return -1;
    }
    return switch (what) {
      case 0 -> lots.stream().filter(l -> l.buyer >= 0).mapToInt(l -> l.price * l.boxes).sum();
      case 1 -> lots.stream().filter(l -> l.buyer >= 0).mapToInt(l -> l.price * l.boxes * 3 / 100)
          .sum();
      case 2 -> lots.stream().filter(l -> l.buyer < 0).mapToInt(l -> l.gets).sum();
      case 3 -> (int) lots.stream().filter(l -> l.buyer < 0).count();
      case 4 -> lots.stream().filter(l -> l.buyer >= 0).mapToInt(l -> l.boxes).sum();
      default -> -1;
    };
  }

  int without(int buyer) {
    if (!sold || buyer < 0 || buyer >= buyers.size()) {
      return -1;
    }
    Buyer[] who = new Buyer[buyers.size()];
    for (int b = 0; b < who.length; b++) {
      who[b] = b == buyer ? null : buyers.get(b).copy();
    }
    List<Lot> again = new ArrayList<>();
    for (Lot l : lots) {
      Lot copy = new Lot();
      copy.boat = l.boat;
      copy.kind = l.kind;
      copy.size = l.size;
      copy.boxes = l.boxes;
      copy.quality = l.quality;
      again.add(copy);
    }
    run(again, who);
    return again.stream().mapToInt(l -> l.gets).sum();
  }

  int load(int lorry, int what) {
    if (!sold || lorry < 0 || lorry >= lorries.size()) {
      return -1;
    }
    List<Integer> on = lorries.get(lorry).on;
    if (what >= 10 && what < 10 + on.size()) {
      return on.get(what - 10);
    }
    return what == 0 ? boxes(on) : what == 1 ? on.size() : -1;
  }

  int stays(int town) {
    if (!sold || town < 0 || town > 3) {
      return -1;
    }
    return lots.stream().filter(l -> l.buyer >= 0 && l.lorry < 0)
        .filter(l -> buyers.get(l.buyer).town == town).mapToInt(l -> l.boxes).sum();
  }

  int count(int what) {
    return switch (what) {
      case 0 -> lots.size();
      case 1 -> buyers.size();
      case 2 -> lorries.size();
      case 3 -> day;
      case 4 -> sold ? 1 : 0;
      case 5 -> hall.size();
      case 6 -> tape.length();
      default -> -1;
    };
  }
}
