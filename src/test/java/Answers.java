import java.util.ArrayList;
import java.util.List;

/**
 * All that an object tells without being changed, as lines: compared ahead of a refused call and
 * behind it. Of lots, buyers and lorries it asks for a few, so that two rounds stay below 512 calls.
 */
final class Answers {
  private static final int LOTS = 4;
  private static final int BUYERS = 2;
  private static final int LORRIES = 2;

  private final List<String> lines = new ArrayList<>();

  private Answers() {}

  static List<String> of(QuayClock x) {
    Answers a = new Answers();
    a.askOfLots(x);
    a.askOfBuyers(x);
    a.askOfTheDay(x);
    return a.lines;
  }

  static void same(String what, List<String> got, List<String> due) {
    Check.due(what + ": answers", got.size(), due.size());
    for (int i = 0; i < due.size() && i < got.size(); i++) {
      boolean same = got.get(i).equals(due.get(i));
      Check.due(what + ": " + got.get(i) + " stands for " + due.get(i), same, true);
    }
  }

  private void add(String call, int answer) {
    lines.add(call + " = " + answer);
  }

  private void askOfLots(QuayClock x) {
    for (int lot = 0; lot < LOTS; lot++) {
      for (int what = 0; what <= 7; what++) {
        add("told(" + lot + ", " + what + ")", x.told(lot, what));
      }
      for (int b = 0; b < BUYERS; b++) {
        add("limit(" + b + ", " + lot + ")", x.limit(b, lot));
        add("rule(" + b + ", " + lot + ")", x.rule(b, lot));
      }
    }
  }

  private void askOfBuyers(QuayClock x) {
    for (int b = 0; b < BUYERS; b++) {
      for (int what = 0; what <= 2; what++) {
        add("bought(" + b + ", " + what + ")", x.bought(b, what));
      }
      for (int k = 0; k < 6; k++) {
        add("bought(" + b + ", " + (10 + k) + ")", x.bought(b, 10 + k));
        add("bought(" + b + ", " + (20 + k) + ")", x.bought(b, 20 + k));
      }
      add("without(" + b + ")", x.without(b));
    }
  }

  private void askOfTheDay(QuayClock x) {
    for (int i = 0; i < 6; i++) {
      add("last(" + i + ")", x.last(i));
      add("gets(" + i + ")", x.gets(i));
    }
    for (int i = 0; i < 5; i++) {
      add("sum(" + i + ")", x.sum(i));
    }
    for (int town = 0; town < 4; town++) {
      add("stays(" + town + ")", x.stays(town));
    }
    for (int lorry = 0; lorry < LORRIES; lorry++) {
      for (int what : new int[] {0, 1, 10, 11}) {
        add("load(" + lorry + ", " + what + ")", x.load(lorry, what));
      }
    }
    for (int what = 0; what <= 6; what++) {
      add("count(" + what + ")", x.count(what));
    }
    add("place()", x.place());
  }
}
