import java.util.List;

/**
 * 'NONE, and nothing happens': every call that can be refused is made in every state of a day, and all
 * that the object tells is as it was, there and to the end of the next day.
 */
public final class RefusedCallsTest {
  private static final int MIN = Integer.MIN_VALUE;
  private static final int MAX = Integer.MAX_VALUE;

  /** The states in which calls are refused: one step of the two days each. */
  private static final int STEPS = 6;

  public static void main(String[] args) {
    for (int step = 0; step <= STEPS; step++) {
      nothingThere(step);
      nothingLater(step);
    }
    nothingOnAFullTape();
    nothingInAFullHall();
    questionsChangeNothing();
    Check.end();
  }

  /** The next step of two days; behind the last one the second SALE was. */
  private static void go(QuayClock x, int step) {
    switch (step) {
      case 0 -> {
        x.buyer(0, 900);
        x.buyer(1, 500);
        x.want(0, 0, 20);
        x.want(1, 0, 9);
        x.want(1, 3, 7);
        Check.text(x, 0, "bid 40+last if bought<9;bid 30;");
        Check.text(x, 1, "bid 35;");
      }
      case 1 -> {
        Check.text(x, -1, "start 60;least 20 if kind==3;");
        x.lorry(0, 12, 70);
        x.lot(0, 0, 1, 8, 4);
        x.lot(5, 3, 0, 7, 9);
        x.lot(2, 0, 3, 6, 0);
      }
      case 2 -> x.sale();
      case 3 -> x.day();
      case 4 -> {
        x.lot(1, 0, 0, 9, 1);
        x.lot(3, 3, 0, 2, 1);
        x.lorry(1, 60, 99999);
      }
      default -> x.sale();
    }
  }

  private static QuayClock ahead(int step) {
    QuayClock x = new QuayClock();
    for (int s = 0; s < step; s++) {
      go(x, s);
    }
    return x;
  }

  private static void nothingThere(int step) {
    QuayClock x = ahead(step);
    List<String> was = Answers.of(x);
    refused(x, step);
    Answers.same("refused ahead of step " + step, Answers.of(x), was);
  }

  /** What a refused call would have left behind unseen comes out by the end. */
  private static void nothingLater(int step) {
    QuayClock x = ahead(step);
    refused(x, step);
    for (int s = step; s < STEPS; s++) {
      go(x, s);
    }
    Answers.same("refused ahead of step " + step + ", at the end", Answers.of(x), Answers.of(ahead(STEPS)));
  }

  private static void refused(QuayClock x, int step) {
    refusedTexts(x);
    refusedLots(x);
    refusedBuyers(x);
    refusedLorries(x);
    boolean saleWas = step == 3 || step == STEPS;
    if (saleWas) {
      Check.due("sale() again", x.sale(), -2);
      Check.due("lot() behind the sale", x.lot(0, 0, 0, 1, 0), -1);
    } else {
      Check.due("day() ahead of the sale", x.day(), -1);
    }
  }

  private static void refusedTexts(QuayClock x) {
    Check.due("back(1) of nothing", x.back(1), -1);
    Check.due("back(-1)", x.back(-1), -1);
    Check.due("back(min)", x.back(MIN), -1);
    Check.due("back(max)", x.back(MAX), -1);
    Check.due("read(-2)", x.read(-2), -2);
    Check.due("read(2)", x.read(2), -2);
    Check.due("read(min)", x.read(MIN), -2);
    Check.due("read(max)", x.read(MAX), -2);
  }

  private static void refusedLots(QuayClock x) {
    int[][] wrong = {{-1, 0, 0, 1, 0}, {6, 0, 0, 1, 0}, {0, -1, 0, 1, 0}, {0, 6, 0, 1, 0}, {0, 0, -1, 1, 0},
        {0, 0, 4, 1, 0}, {0, 0, 0, 0, 0}, {0, 0, 0, 21, 0}, {0, 0, 0, -1, 0}, {0, 0, 0, 1, -1},
        {0, 0, 0, 1, 10}, {MAX, MAX, MAX, MAX, MAX}, {MIN, MIN, MIN, MIN, MIN}};
    for (int[] w : wrong) {
      Check.due("lot() of wrong numbers", x.lot(w[0], w[1], w[2], w[3], w[4]), -1);
    }
  }

  private static void refusedBuyers(QuayClock x) {
    int[][] wrong = {{-1, 1}, {4, 1}, {0, -1}, {0, 1000001}, {MIN, 1}, {MAX, 1}, {0, MIN}, {0, MAX}};
    for (int[] w : wrong) {
      Check.due("buyer() of wrong numbers", x.buyer(w[0], w[1]), -1);
    }
    int[][] wants = {{-1, 0, 1}, {2, 0, 1}, {6, 0, 1}, {0, -1, 1}, {0, 6, 1}, {0, 0, -1}, {0, 0, 501},
        {1, 3, MAX}, {1, 3, MIN}, {1, MAX, 1}, {1, MIN, 1}, {MAX, 0, 1}, {MIN, 0, 1}};
    for (int[] w : wants) {
      Check.due("want() of wrong numbers", x.want(w[0], w[1], w[2]), false);
    }
  }

  private static void refusedLorries(QuayClock x) {
    int[][] wrong = {{-1, 9, 9}, {4, 9, 9}, {0, 0, 9}, {0, 61, 9}, {0, -1, 9}, {0, 9, -1}, {0, 9, 100000},
        {MIN, 9, 9}, {MAX, 9, 9}, {0, MIN, 9}, {0, MAX, 9}, {0, 9, MIN}, {0, 9, MAX}};
    for (int[] w : wrong) {
      Check.due("lorry() of wrong numbers", x.lorry(w[0], w[1], w[2]), -1);
    }
  }

  // Promises 2, 3, 4: what is on the tape stays, byte for byte
  private static void nothingOnAFullTape() {
    QuayClock x = ahead(2);
    Check.text(x, 0, "");
    Check.put(x, " ".repeat(1975) + "bid 30+boxes if bo;      ");
    Check.due("bytes", x.count(6), 2000);
    Check.due("feed onto a full tape", x.feed(-1, -1, -1, -1, -1), -1);
    Check.due("back(2001)", x.back(2001), -1);
    Check.due("back(-1)", x.back(-1), -1);
    Check.due("read(2)", x.read(2), -2);
    Check.due("read(-2)", x.read(-2), -2);
    Check.due("bytes", x.count(6), 2000);
    Check.due("read(0): 'bid 30+boxes if bo;'", x.read(0), 1);
    Check.due("place(): at 'bo'", x.place(), 1975 + 16);
    Check.put(x, "bid 30+boxes;");
    Check.due("read(6)", x.read(6), -2);
    Check.due("back(14)", x.back(14), -1);
    Check.due("place() of the one ahead", x.place(), 1975 + 16);
    Check.due("read(0)", x.read(0), 0);
    Check.due("limit(0, 0)", x.limit(0, 0), 38);
  }

  // Promises 6, 7, 9: 24, 6 and 6 are there
  private static void nothingInAFullHall() {
    QuayClock x = ahead(2);
    while (x.count(0) < 24) {
      x.lot(4, 0, 0, 1, 1);
    }
    while (x.count(1) < 6) {
      x.buyer(3, 70);
    }
    while (x.count(2) < 6) {
      x.lorry(0, 2, 999);
    }
    List<String> was = Answers.of(x);
    Check.due("a 25th lot", x.lot(0, 0, 0, 1, 0), -1);
    Check.due("a 7th buyer", x.buyer(0, 100), -1);
    Check.due("a 7th lorry", x.lorry(0, 60, 99999), -1);
    Answers.same("refused in a full hall", Answers.of(x), was);
    QuayClock y = ahead(2);
    while (y.count(1) < 6) {
      y.buyer(3, 70);
    }
    while (y.count(2) < 6) {
      y.lorry(0, 2, 999);
    }
    y.sale();
    was = Answers.of(y);
    Check.due("a 7th buyer behind the sale", y.buyer(0, 100), -1);
    Check.due("a 7th lorry behind the sale", y.lorry(0, 60, 99999), -1);
    Check.due("a lot behind the sale", y.lot(0, 0, 0, 1, 0), -1);
    Answers.same("refused in a full hall behind the sale", Answers.of(y), was);
  }

  // Promise 19: 'Nothing changes.'
  private static void questionsChangeNothing() {
    for (int step = 0; step <= STEPS; step++) {
      QuayClock x = ahead(step);
      List<String> was = Answers.of(x);
      for (int b = -1; b <= 2; b++) {
        x.without(b);
        x.limit(b, 0);
        x.rule(b, 1);
      }
      Answers.same("asked twice ahead of step " + step, Answers.of(x), was);
      for (int s = step; s < STEPS; s++) {
        go(x, s);
      }
      int[] due = {ahead(STEPS).sum(0), ahead(STEPS).told(0, 1), ahead(STEPS).bought(1, 1)};
      Check.due("sum(0) at the end", x.sum(0), due[0]);
      Check.due("told(0, 1) at the end", x.told(0, 1), due[1]);
      Check.due("bought(1, 1) at the end", x.bought(1, 1), due[2]);
    }
  }
}
