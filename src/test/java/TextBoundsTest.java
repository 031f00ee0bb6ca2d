/** The boundary cases of part II: bytes, TOKENS, FAULTS and their places, and what a text computes. */
public final class TextBoundsTest {
  private static final String[] VARS = {"boat", "kind", "size", "boxes", "quality", "last", "bought",
      "wanted", "credit", "lot"};

  public static void main(String[] args) {
    everyByteFirst();
    everyByteBehindAUnit();
    everyByteBehindAWord();
    everyByteInACondition();
    everyByteInParentheses();
    words();
    oneLetterOfAWord();
    ints();
    signs();
    bytesOfATape();
    bytesThatWent();
    fullTape();
    tokens();
    rules();
    parentheses();
    roomOfTwoKinds();
    firstByPlace();
    textsEnd();
    aFaultChangesNothing();
    inPlaceOfTheOneAhead();
    placeOfTheLatest();
    wraps();
    comparisonsAtTheEnds();
    startsHeld();
    leastsHeld();
    limitWithout();
    limitByWants();
    limitByCredit();
    hallHasNoBuyer();
    Check.end();
  }

  private static boolean isBlank(int b) {
    return b == 9 || b == 10 || b == 13 || b == 32;
  }

  // 'blanks (9, 10, 13, 32)'; 'all else, is no TOKEN'
  private static void everyByteFirst() {
    for (int b = 0; b < 256; b++) {
      String one = String.valueOf((char) b);
      Check.fault(one, isBlank(b) ? 0 : 1, isBlank(b) ? -1 : 0);
      Check.fault(one + "bid 1;", isBlank(b) ? 0 : 1, isBlank(b) ? -1 : 0);
      Check.fault("bid 1;" + one, isBlank(b) ? 0 : 1, isBlank(b) ? -1 : 6);
    }
  }

  private static void everyByteBehindAUnit() {
    for (int b = 0; b < 256; b++) {
      String text = "bid 1" + (char) b + "1;";
      if (b >= '0' && b <= '9' || b == '+' || b == '-' || b == '*') {
        Check.fault(text, 0, -1);
      } else if (isBlank(b) || b == ';') {
        Check.fault(text, 1, 6);
      } else {
        Check.fault(text, 1, 5);
      }
    }
  }

  private static void everyByteBehindAWord() {
    for (int b = 0; b < 256; b++) {
      String text = "bid boat" + (char) b + "1;";
      if (b == '+' || b == '-' || b == '*') {
        Check.fault(text, 0, -1);
      } else if (b >= 'a' && b <= 'z') {
        Check.fault(text, 1, 4);
      } else {
        Check.fault(text, 1, isBlank(b) || b == ';' ? 9 : 8);
      }
    }
  }

  private static void everyByteInACondition() {
    for (int b = 0; b < 256; b++) {
      String text = "bid 1 if 1" + (char) b + "1;";
      if (b == '<') {
        Check.fault(text, 0, -1);
      } else if (b >= '0' && b <= '9' || b == '+' || b == '-' || b == '*') {
        Check.fault(text, 1, 12);
      } else {
        Check.fault(text, 1, isBlank(b) ? 11 : 10);
      }
    }
  }

  private static void everyByteInParentheses() {
    for (int b = 0; b < 256; b++) {
      boolean goesOn = isBlank(b) || b >= '0' && b <= '9';
      String behind = "bid (1" + (char) b + ";";
      if (b == ')') {
        Check.fault(behind, 0, -1);
      } else {
        Check.fault(behind, 1, goesOn || b == '+' || b == '-' || b == '*' ? 7 : 6);
      }
      String first = "bid (" + (char) b + "1);";
      if (goesOn) {
        Check.fault(first, 0, -1);
      } else {
        Check.fault(first, 1, b == '(' ? 8 : 5);
      }
    }
  }

  // 'WORDS (letters a .. z, 8 at most)': none that is longer, shorter or another is one of the text's
  private static void words() {
    for (String var : VARS) {
      Check.fault("bid " + var + ";", 0, -1);
      Check.fault("bid " + var + "a;", 1, 4);
      Check.fault("bid z" + var + ";", 1, 4);
      Check.fault("bid " + var.substring(1) + ";", 1, 4);
      Check.fault("bid " + var.substring(0, var.length() - 1) + ";", 1, 4);
      Check.fault("bid " + var.toUpperCase() + ";", 1, 4);
      Check.fault("bid " + var.substring(0, 1) + " " + var.substring(1) + ";", 1, 4);
      Check.fault(var + " 1;", 1, 0);
    }
    for (String word : new String[] {"bid", "start", "least"}) {
      Check.fault(word + "1;", 0, -1);
      Check.fault(word + "s 1;", 1, 0);
      Check.fault(word.substring(1) + " 1;", 1, 0);
      Check.fault("bid " + word + ";", 1, 4);
    }
    Check.fault("bid abcdefgh;", 1, 4);
    Check.fault("bid abcdefghi;", 1, 4);
    Check.fault("bid qualityquality;", 1, 4);
    Check.fault("bid creditlot;", 1, 4);
    Check.fault("bid 1 iff 1<2;", 1, 6);
    Check.fault("bid 1 i 1<2;", 1, 6);
    Check.fault("bid 1 if 1<2 an 1<2;", 1, 13);
    Check.fault("bid 1 if 1<2 ands 1<2;", 1, 13);
    Check.fault("bid 1 if 1<2 o 1<2;", 1, 13);
    Check.fault("bid 1 if 1<2 ori 1<2;", 1, 13);
    Check.fault("bid 1 if 1<2and 1<2or 1<2;", 0, -1);
  }

  /** A word of which one letter, the first, the last or one between, is another is no word of the text's. */
  private static void oneLetterOfAWord() {
    String text = "start 1 if 1<2 and 1<2 or 1<2;least 1;bid boat+kind+size+boxes+quality+last+bought+wanted+"
        + "credit+lot;";
    Check.fault(text, 0, -1);
    int from = 0;
    for (int at = 0; at < text.length(); at++) {
      char c = text.charAt(at);
      boolean letter = c >= 'a' && c <= 'z';
      boolean first = at == 0 || text.charAt(at - 1) < 'a' || text.charAt(at - 1) > 'z';
      from = first ? at : from;
      for (char other : new char[] {'a', 'q', 'z', 'A', '`', '{'}) {
        if (letter && other != c) {
          StringBuilder s = new StringBuilder(text);
          s.setCharAt(at, other);
          Check.fault(s.toString(), 1, from);
        }
      }
    }
  }

  // 'INTS (1 to 4 digits)'; 'A longer one .. is no TOKEN'
  private static void ints() {
    for (String n : new String[] {"0", "9", "00", "10", "99", "000", "999", "0000", "0001", "9999"}) {
      Check.fault("bid " + n + ";", 0, -1);
      value(n, Integer.parseInt(n));
    }
    for (String n : new String[] {"00000", "00001", "10000", "99999", "123456", "4294967296"}) {
      Check.fault("bid " + n + ";", 1, 4);
      Check.fault("bid 1+" + n + ";", 1, 6);
    }
    Check.fault("bid 1234 5;", 1, 9);
    Check.fault("bid ;", 1, 4);
  }

  // 'SIGNS ; + - * == != < <= ( )', 'the longest that can be'
  private static void signs() {
    Check.fault("bid 1 if 1==2;", 0, -1);
    Check.fault("bid 1 if 1!=2;", 0, -1);
    Check.fault("bid 1 if 1<2;", 0, -1);
    Check.fault("bid 1 if 1<=2;", 0, -1);
    Check.fault("bid 1 if 1= =2;", 1, 10);
    Check.fault("bid 1 if 1! =2;", 1, 10);
    Check.fault("bid 1 if 1< =2;", 1, 12);
    Check.fault("bid 1 if 1===2;", 1, 12);
    Check.fault("bid 1 if 1!==2;", 1, 12);
    Check.fault("bid 1 if 1<==2;", 1, 12);
    Check.fault("bid 1 if 1<===2;", 1, 12);
    Check.fault("bid 1 if 1=<2;", 1, 10);
    Check.fault("bid 1 if 1<>2;", 1, 11);
    Check.fault("bid 1 if 1>=2;", 1, 10);
    Check.fault("bid 1 if 1!2;", 1, 10);
    Check.fault("bid 1 if 1<<2;", 1, 11);
    Check.fault("bid 1++2;", 1, 6);
    Check.fault("bid 1--2;", 1, 6);
    Check.fault("bid 1**2;", 1, 6);
    Check.fault("bid 4/2;", 1, 5);
    Check.fault("bid (1)+((2))*(3);", 0, -1);
  }

  // Promise 2: 'Twenty bytes, the highest of a first'
  private static void bytesOfATape() {
    String text = "bid 1234 if 1<2 and;";
    for (int at = 0; at < 20; at++) {
      StringBuilder s = new StringBuilder(text);
      s.setCharAt(at, (char) 0x80);
      Check.fault(s.toString(), 1, firstFault(at));
    }
    Check.fault(text, 1, 19);
  }

  /** Where the text above can't go on, if the byte there is no TOKEN: a word that it cuts is one, too. */
  private static int firstFault(int at) {
    int[] from = {0, 0, 0, 3, 4, 5, 6, 7, 8, 9, 9, 11, 12, 13, 14, 15, 16, 16, 16, 19};
    return from[at];
  }

  // Promise 3: what has gone from the tape is no part of the text, not even of its last TOKEN
  private static void bytesThatWent() {
    String[][] cut = {{"bid 12", "1"}, {"bid boat", "1"}, {"bid 1 if 1<=", "1"}, {"bid 1 if 1==", "1"},
        {"bid 1 if 1!=", "1"}, {"bid 1;bid", "3"}, {"bid 1;;", "1"}, {"bid 1; .", "1"}};
    int[][] due = {{1, 5}, {1, 4}, {1, 11}, {1, 10}, {1, 10}, {0, -1}, {0, -1}, {0, -1}};
    for (int i = 0; i < cut.length; i++) {
      QuayClock x = new QuayClock();
      Check.put(x, cut[i][0]);
      x.back(Integer.parseInt(cut[i][1]));
      Check.due("read(-1) of '" + cut[i][0] + "' cut", x.read(-1), due[i][0]);
      Check.due("place() of '" + cut[i][0] + "' cut", x.place(), due[i][1]);
    }
    QuayClock y = new QuayClock();
    Check.text(y, -1, "bid 1;bid 2;bid 3;");
    Check.put(y, "bid 1");
    Check.due("read(-1) behind a longer text", y.read(-1), 1);
    Check.due("place() behind a longer text", y.place(), 5);
    Check.due("read(-1) of nothing behind it", y.read(-1), 0);
    Check.due("count(5) of nothing", y.count(5), 0);
  }

  private static String padded(String head, String tail, int bytes) {
    return head + " ".repeat(bytes - head.length() - tail.length()) + tail;
  }

  // 'of at most 2,000 bytes'; 'the text's end: its length'
  private static void fullTape() {
    Check.fault(" ".repeat(2000), 0, -1);
    Check.fault(padded("bid 1;", "", 2000), 0, -1);
    Check.fault(padded("", "bid 1;", 2000), 0, -1);
    Check.fault(padded("bid 1", ";", 2000), 0, -1);
    Check.fault(padded("bid 1;", ".", 2000), 1, 1999);
    Check.fault(padded("bid 1;", ";", 2000), 1, 1999);
    Check.fault(padded("bid 1;", "bid 7", 2000), 1, 2000);
    Check.fault(padded("bid 1;", "bid", 2000), 1, 2000);
    Check.fault(padded("bid 1;", "bid boat", 2000), 1, 2000);
    Check.fault(padded("bid 1;", "bid 1 if 1<", 2000), 1, 2000);
    Check.fault(padded("bid 1;", "bid 1 if 1<=", 2000), 1, 2000);
    Check.fault(padded("bid 1;", "bid 1 if 1=", 2000), 1, 1999);
    Check.fault(padded("bid 1;", "bid 1 if 1!", 2000), 1, 1999);
    Check.fault(padded("bid 1", "", 1999), 1, 1999);
    Check.fault("a".repeat(2000), 1, 0);
    Check.fault("1".repeat(2000), 1, 0);
    Check.fault("bid " + "1".repeat(1996), 1, 4);
    Check.fault("(".repeat(2000), 1, 0);
    Check.fault("bid " + "(".repeat(1996), 2, 10);
    Check.fault("bid 1;".repeat(333), 2, 120);
    Check.fault("bid " + "1+".repeat(998), 2, 403);
  }

  /** A RULE of so many TOKENS, an odd number from 3 on. */
  private static String rule(int tokens) {
    return "bid 1" + "+1".repeat((tokens - 3) / 2) + ";";
  }

  private static String full() {
    return rule(201) + rule(199);
  }

  // 'ROOM: a 401st TOKEN'
  private static void tokens() {
    Check.fault(full(), 0, -1);
    Check.fault(full() + " \t\r\n", 0, -1);
    Check.fault(rule(201) + rule(201), 2, rule(201).length() * 2 - 3 + 1);
    for (String next : new String[] {"bid", "start", "least"}) {
      Check.fault(full() + next, 2, full().length());
      Check.fault(full() + " " + next + " 1;", 2, full().length() + 1);
    }
    String unitDue = rule(3) + "bid 1" + "+1".repeat(197) + "+";
    for (String next : new String[] {"0", "9999", "boat", "lot", "("}) {
      Check.fault(unitDue + next, 2, unitDue.length());
      Check.fault(unitDue + "  " + next + ";", 2, unitDue.length() + 2);
    }
    for (String next : new String[] {";", ")", "*", "bid", "abc", "12345", "=", "\0", "<"}) {
      Check.fault(unitDue + next, 1, unitDue.length());
    }
    Check.fault(unitDue, 1, unitDue.length());
    String unitWas = "bid 1" + "+1".repeat(199);
    for (String next : new String[] {";", "+1;", "-1;", "*1;", "if 1<2;"}) {
      Check.fault(unitWas + next, 2, unitWas.length());
    }
    for (String next : new String[] {")", "(", "<2", "and", "or", "5", "boat", "bid", "!"}) {
      String text = unitWas + " " + next;
      Check.fault(text, 1, unitWas.length() + 1);
    }
    Check.fault(unitWas + "  ", 1, unitWas.length() + 2);
    tokensOfAClose();
    tokensOfACondition();
  }

  private static void tokensOfAClose() {
    String open = rule(3) + "bid (1" + "+1".repeat(197);
    Check.fault(open + ")", 2, open.length());
    Check.fault(open + "+", 2, open.length());
    Check.fault(open + ";", 1, open.length());
    Check.fault(open, 1, open.length());
  }

  private static void tokensOfACondition() {
    String left = "bid 1 if 1" + "+1".repeat(198);
    Check.fault(left + "<", 2, left.length());
    Check.fault(left + "<=", 2, left.length());
    Check.fault(left + "==", 2, left.length());
    Check.fault(left + "!=", 2, left.length());
    Check.fault(left + ";", 1, left.length());
    Check.fault(left + "=", 1, left.length());
    String right = "bid 1 if 1<1" + "+1".repeat(196) + " ";
    Check.fault(right + "and 1<2;", 2, right.length() + 5);
    Check.fault(right + "or 1<=2;", 2, right.length() + 4);
    String most = rule(3) + "bid 1 if 1<1" + "+1".repeat(195);
    Check.fault(most + ";", 0, -1);
    Check.fault(most + ";bid", 2, most.length() + 1);
    Check.fault(most + "+1;", 2, most.length() + 1);
    Check.fault(most + " and", 1, most.length() + 4);
    Check.fault(most + " or 1<2;", 2, most.length() + 4);
    String behind = "bid 1 if 1<1*(1" + "+1".repeat(195) + ") ";
    Check.fault(behind + "and 1<2;", 2, behind.length());
    Check.fault(behind + "or 1<2;", 2, behind.length());
    Check.fault(behind + ";", 2, behind.length());
    Check.fault(behind + "if", 1, behind.length());
  }

  // 'ROOM: a 21st RULE (at its first TOKEN)'
  private static void rules() {
    for (String word : new String[] {"bid", "start", "least"}) {
      String twenty = (word + " 1;").repeat(20);
      Check.fault(twenty, 0, -1);
      Check.fault(twenty + "\n", 0, -1);
      Check.fault((word + " 1;").repeat(19) + word, 1, twenty.length() - 3);
      for (String next : new String[] {"bid", "start", "least"}) {
        Check.fault(twenty + next + " 1;", 2, twenty.length());
        Check.fault(twenty + "\r" + next, 2, twenty.length() + 1);
      }
      for (String next : new String[] {";", "if", "1", "boat", "bids", "(", "."}) {
        Check.fault(twenty + next, 1, twenty.length());
      }
    }
    QuayClock x = new QuayClock();
    Check.text(x, -1, "bid 1;".repeat(19));
    Check.due("RULES of 19", x.count(5), 19);
    Check.text(x, -1, "bid 1;".repeat(20));
    Check.due("RULES of 20", x.count(5), 20);
    Check.put(x, "bid 1;".repeat(21));
    Check.due("read(-1) of 21", x.read(-1), 2);
    Check.due("RULES stay", x.count(5), 20);
  }

  // 'ROOM: a 7th ( within one another (at it)'
  private static void parentheses() {
    String six = "((((((1))))))";
    Check.fault("bid " + six + ";", 0, -1);
    Check.fault("bid (" + six + ");", 2, 10);
    Check.fault("bid " + six + "+" + six + "*" + six + ";", 0, -1);
    Check.fault("bid " + six + " if " + six + "<" + six + " and " + six + "==" + six + ";", 0, -1);
    Check.fault("bid 1 if (" + six + ")<1;", 2, 15);
    Check.fault("bid 1 if 1<(" + six + ");", 2, 17);
    Check.fault("bid 1 if 1<2 or (" + six + ")<1;", 2, 22);
    Check.fault("bid (((((1+(2)*(3))))));", 0, -1);
    Check.fault("bid (((((1+(2)*((3)))))));", 2, 16);
    Check.fault("bid (((((((", 2, 10);
    Check.fault("bid ( ( ( ( ( ( (", 2, 16);
    Check.fault("bid ((((((1)(", 1, 12);
    Check.fault("bid ((((((1(", 1, 11);
    Check.fault("bid ((((((", 1, 10);
    Check.fault("bid ((((((1)))))", 1, 16);
    Check.fault("bid ((((((1)))))));", 1, 17);
    Check.fault("bid 1;bid " + six + ";bid (" + six + ");", 2, 34);
    value("((((((7))))))", 7);
    value("((((((1+1)+1)*2+1)+1)+1)+1)", 10);
  }

  /** A 401st TOKEN that is a 7th ( too, or a 21st RULE's first. */
  private static void roomOfTwoKinds() {
    String open = rule(3) + "bid 1" + "+1".repeat(191) + "*((((((1*";
    Check.fault(open + "(", 2, open.length());
    Check.fault(open + "1", 1, open.length() + 1);
    String tooMany = rule(3) + "bid 1" + "+1".repeat(194) + "*((((((";
    Check.fault(tooMany + "(", 2, tooMany.length());
    String twenty = rule(19).repeat(10) + rule(21).repeat(10);
    Check.fault(twenty, 0, -1);
    Check.fault(twenty + "bid", 2, twenty.length());
    Check.fault(twenty + "if", 1, twenty.length());
  }

  // 'FAULTS, the first by its place'
  private static void firstByPlace() {
    Check.fault("bid 1+;bid (((((((1;", 1, 6);
    Check.fault("bid (((((((1;bid 1+;", 2, 10);
    Check.fault("bid 1;".repeat(20) + "bid +;", 2, 120);
    Check.fault("bid +;" + "bid 1;".repeat(20), 1, 4);
    Check.fault("bid 12345;bid .;", 1, 4);
    Check.fault(full() + "bid ;", 2, full().length());
    Check.fault("bid .;" + full() + "bid 1;", 1, 4);
    Check.fault("bid (((((((" + "1+".repeat(200), 2, 10);
    Check.fault("bid 1;".repeat(20) + "bid " + "1+".repeat(200), 2, 120);
  }

  // 'a place (a byte; the text's end: its length)'
  private static void textsEnd() {
    String text = "bid (1+boat)*2 if lot<=3 and 1!=2 or kind==4;";
    for (int bytes = 0; bytes <= text.length(); bytes++) {
      String head = text.substring(0, bytes);
      int due = endOf(head);
      Check.fault(head, due < 0 ? 0 : 1, due);
    }
    Check.fault("bid\n", 1, 4);
    Check.fault("bid 1 \t\r\n ", 1, 10);
  }

  /** Where a head of the text above has its fault: at a word or sign that is cut, or at its end. */
  private static int endOf(String head) {
    int n = head.length();
    if (n == 0 || n == 45) {
      return -1;
    }
    int[][] cut = {{0, 3}, {7, 11}, {15, 17}, {18, 21}, {25, 28}, {30, 32}, {34, 36}, {37, 41}, {41, 43}};
    for (int[] c : cut) {
      boolean lessIsASign = c[0] == 21;
      if (n > c[0] && n < c[1] && !lessIsASign) {
        return c[0];
      }
    }
    return n;
  }

  private static QuayClock oneLot() {
    QuayClock x = new QuayClock();
    x.buyer(0, 1000000);
    x.buyer(0, 1000000);
    x.want(0, 0, 500);
    x.want(1, 0, 500);
    x.lot(0, 0, 0, 1, 0);
    return x;
  }

  // 'A text with a FAULT changes nothing'
  private static void aFaultChangesNothing() {
    String[] bad = {"bid", "bid 99;bid", "start 9;least", "bid 1;".repeat(21), "bid (((((((1)))))));",
        rule(201) + rule(201), "bid 1;.", "start 7;start 8;least 9;x", "least 8;12345"};
    for (String text : bad) {
      QuayClock x = oneLot();
      Check.text(x, -1, "start 70;least 40;bid 3;");
      Check.text(x, 0, "bid 5 if 1==2;bid 50;");
      for (int who = -1; who <= 1; who++) {
        Check.put(x, text);
        Check.due("read(" + who + ") of a bad text is a FAULT", x.read(who) > 0, true);
        Check.due("the tape is empty", x.count(6), 0);
      }
      Check.due("count(5)", x.count(5), 3);
      Check.due("limit(0, 0)", x.limit(0, 0), 50);
      Check.due("rule(0, 0)", x.rule(0, 0), 1);
      Check.due("limit(1, 0)", x.limit(1, 0), 0);
      Check.due("rule(1, 0)", x.rule(1, 0), -1);
      x.sale();
      Check.due("START", x.told(0, 4), 70);
      Check.due("LEAST", x.told(0, 5), 40);
      Check.due("price", x.told(0, 1), 50);
    }
  }

  // 'else it is in place of the one ahead'
  private static void inPlaceOfTheOneAhead() {
    QuayClock x = oneLot();
    Check.text(x, 0, "bid 5 if 1==2;bid 6 if 1==2;bid 7;");
    Check.text(x, 1, "bid 9;");
    Check.text(x, -1, "start 8;least 3;");
    Check.text(x, 0, "bid 4;");
    Check.due("limit(0, 0)", x.limit(0, 0), 4);
    Check.due("rule(0, 0)", x.rule(0, 0), 0);
    Check.due("limit(1, 0)", x.limit(1, 0), 9);
    Check.text(x, 0, "");
    Check.due("limit(0, 0) of an empty text", x.limit(0, 0), 0);
    Check.due("rule(0, 0) of an empty text", x.rule(0, 0), -1);
    Check.text(x, 1, " \n ");
    Check.due("limit(1, 0) of blanks", x.limit(1, 0), 0);
    Check.text(x, -1, "");
    Check.due("RULES of an empty text", x.count(5), 0);
    x.sale();
    Check.due("START of an empty text", x.told(0, 4), 100);
    Check.due("LEAST of an empty text", x.told(0, 5), 1);
  }

  // Promise 5: 'of the latest read()'s FAULT (that was not -2); NONE without'
  private static void placeOfTheLatest() {
    QuayClock x = oneLot();
    Check.due("place() at first", x.place(), -1);
    Check.due("read(2)", x.read(2), -2);
    Check.due("place() behind -2 at first", x.place(), -1);
    Check.put(x, ".");
    x.read(0);
    Check.due("place() 0", x.place(), 0);
    Check.put(x, "bid 1;;");
    Check.due("place() while the next is on the tape", x.place(), 0);
    Check.due("read(2)", x.read(2), -2);
    Check.due("place() behind -2", x.place(), 0);
    x.read(-1);
    Check.due("place() 6", x.place(), 6);
    x.read(1);
    Check.due("place() behind an empty text", x.place(), -1);
    Check.due("read(-2)", x.read(-2), -2);
    Check.due("place() behind -2 again", x.place(), -1);
  }

  private static void value(String e, int due) {
    QuayClock x = oneLot();
    Check.text(x, 0, "bid " + e + ";");
    Check.due("limit of " + e, x.limit(0, 0), due);
  }

  private static void holds(String cond, boolean due) {
    QuayClock x = oneLot();
    Check.text(x, 0, "bid 1 if " + cond + ";");
    Check.due("rule if " + cond, x.rule(0, 0), due ? 0 : -1);
  }

  /** 2 to the 31st, which wraps to the least int. */
  private static final String LEAST_INT = "4096*4096*128";
  private static final String GREATEST_INT = "(4096*4096*128-1)";

  // 'Ints of 32 bits that wrap.'
  private static void wraps() {
    value(LEAST_INT, Integer.MIN_VALUE);
    value(GREATEST_INT, 1000000);
    value(GREATEST_INT + "+1", Integer.MIN_VALUE);
    value("0-" + GREATEST_INT, -Integer.MAX_VALUE);
    value("0-" + GREATEST_INT + "-1", Integer.MIN_VALUE);
    value("0-" + GREATEST_INT + "-2", 1000000);
    value("0-" + LEAST_INT, Integer.MIN_VALUE);
    value("4096*4096*256", 0);
    value("4096*4096*256+5", 5);
    value("4096*4096*(256*4096)+7", 7);
    value("9999*9999*9999-9999*9999*9999+3", 3);
    value("(0-1)*(0-1)", 1);
    value("(0-1)*" + LEAST_INT, Integer.MIN_VALUE);
    value("(0-3)*5", -15);
    value(GREATEST_INT + "*2", -2);
    value(GREATEST_INT + "*" + GREATEST_INT, 1);
    value("9999*9999*9999", 9999 * 9999 * 9999);
    value("0-9999*9999*9999*9999*9999", -1193515343);
  }

  private static void comparisonsAtTheEnds() {
    holds(LEAST_INT + "<" + GREATEST_INT, true);
    holds(GREATEST_INT + "<" + LEAST_INT, false);
    holds(LEAST_INT + "<=" + LEAST_INT, true);
    holds(LEAST_INT + "<" + LEAST_INT, false);
    holds(GREATEST_INT + "<=" + GREATEST_INT, true);
    holds(GREATEST_INT + "+1==" + LEAST_INT, true);
    holds(GREATEST_INT + "!=" + LEAST_INT, true);
    holds(LEAST_INT + "<0", true);
    holds("0<" + LEAST_INT, false);
    holds("4096*4096*256==0", true);
    holds("0<=0-1", false);
    holds("0-1<=0", true);
  }

  private static void prices(String hall, int start, int least) {
    QuayClock x = new QuayClock();
    x.lot(0, 0, 0, 1, 0);
    Check.text(x, -1, hall);
    x.sale();
    Check.due("START by '" + hall + "'", x.told(0, 4), start);
    Check.due("LEAST by '" + hall + "'", x.told(0, 5), least);
    Check.due("SECOND by '" + hall + "'", x.told(0, 2), start - least);
  }

  // 'START .. held to 1 .. 999; 100 without one'
  private static void startsHeld() {
    prices("", 100, 1);
    prices("bid 7;", 100, 1);
    prices("start 5 if 1==2;", 100, 1);
    prices("start 0;", 1, 1);
    prices("start 1;", 1, 1);
    prices("start 2;", 2, 1);
    prices("start 998;", 998, 1);
    prices("start 999;", 999, 1);
    prices("start 1000;", 999, 1);
    prices("start 0-1;", 1, 1);
    prices("start " + LEAST_INT + ";", 1, 1);
    prices("start " + GREATEST_INT + ";", 999, 1);
    prices("start 5 if 1==2;start 6 if 1==1;start 7;", 6, 1);
    prices("start 6;start 7;", 6, 1);
  }

  // 'LEAST: of its first least RULE likewise, held to 1 .. START; 1 without'
  private static void leastsHeld() {
    prices("least 0;", 100, 1);
    prices("least 1;", 100, 1);
    prices("least 2;", 100, 2);
    prices("least 99;", 100, 99);
    prices("least 100;", 100, 100);
    prices("least 101;", 100, 100);
    prices("least 0-1;", 100, 1);
    prices("least " + LEAST_INT + ";", 100, 1);
    prices("least " + GREATEST_INT + ";", 100, 100);
    prices("start 1000;least 1000;", 999, 999);
    prices("start 1000;least 998;", 999, 998);
    prices("start 0;least 5;", 1, 1);
    prices("least 9;start 8;", 8, 8);
    prices("least 5 if 1==2;least 6;least 7;", 100, 6);
    prices("least 5 if 1==2;", 100, 1);
  }

  // 'the E of its first bid RULE that holds; 0 without'
  private static void limitWithout() {
    QuayClock x = oneLot();
    Check.due("limit without a text", x.limit(0, 0), 0);
    Check.text(x, 0, "start 50;least 40;");
    Check.due("limit without a bid RULE", x.limit(0, 0), 0);
    Check.due("rule without a bid RULE", x.rule(0, 0), -1);
    Check.text(x, 0, "bid 50 if 1==2;");
    Check.due("limit without one that holds", x.limit(0, 0), 0);
    Check.due("rule without one that holds", x.rule(0, 0), -1);
    Check.text(x, 0, "bid 0;bid 5;");
    Check.due("limit by a first that is 0", x.limit(0, 0), 0);
    Check.due("rule by a first that is 0", x.rule(0, 0), 0);
    Check.text(x, 0, "start 1;".repeat(19) + "bid 8;");
    Check.due("limit by the 20th RULE", x.limit(0, 0), 8);
    Check.due("rule: the 20th", x.rule(0, 0), 19);
  }

  // '0 if it still WANTS fewer BOXES of the KIND than the LOT has'; 'no less than 0'
  private static void limitByWants() {
    for (int boxes : new int[] {1, 2, 19, 20}) {
      QuayClock x = new QuayClock();
      x.buyer(0, 1000000);
      x.lot(0, 3, 0, boxes, 0);
      Check.text(x, 0, "bid 7;");
      Check.due("limit, WANTS 0", x.limit(0, 0), 0);
      x.want(0, 3, boxes - 1);
      Check.due("limit, WANTS one fewer than " + boxes, x.limit(0, 0), 0);
      Check.due("rule, WANTS one fewer", x.rule(0, 0), 0);
      x.want(0, 3, boxes);
      Check.due("limit, WANTS " + boxes, x.limit(0, 0), 7);
      x.want(0, 3, boxes + 1);
      Check.due("limit, WANTS one more", x.limit(0, 0), 7);
    }
    QuayClock y = new QuayClock();
    y.buyer(0, 1000000);
    y.want(0, 3, 30);
    y.lot(0, 3, 0, 20, 0);
    y.lot(0, 3, 0, 10, 0);
    y.lot(0, 3, 0, 11, 0);
    Check.text(y, 0, "bid 7 if lot==0;");
    y.sale();
    Check.text(y, 0, "bid 7+wanted;");
    Check.due("limit for 10 of 10 that it still WANTS", y.limit(0, 1), 17);
    Check.due("limit for 11 of 10", y.limit(0, 2), 0);
    y.want(0, 3, 20);
    Check.due("WANTS: all of them BOUGHT", y.bought(0, 23), 0);
    y.want(0, 3, 19);
    Check.due("WANTS: no less than 0", y.bought(0, 23), 0);
    y.want(0, 3, 0);
    Check.due("WANTS 0: no less than 0", y.bought(0, 23), 0);
    Check.text(y, 0, "bid 3 if wanted==0;bid 4;");
    Check.due("rule by wanted, no less than 0", y.rule(0, 0), 0);
    y.want(0, 3, 21);
    Check.due("rule by wanted of 1", y.rule(0, 0), 1);
  }

  // 'at most what its CREDIT that is left pays for a box of all these BOXES (the whole part)'
  private static void limitByCredit() {
    int[][] due = {{0, 1, 0}, {1, 1, 1}, {0, 20, 0}, {19, 20, 0}, {20, 20, 1}, {39, 20, 1}, {40, 20, 2},
        {999, 10, 99}, {1000, 10, 100}, {1009, 10, 100}, {1010, 10, 100}, {1000000, 20, 100}};
    for (int[] d : due) {
      QuayClock x = new QuayClock();
      x.buyer(0, d[0]);
      x.want(0, 0, 20);
      x.lot(0, 0, 0, d[1], 0);
      Check.text(x, 0, "bid 100;");
      Check.due("limit of " + d[0] + " for " + d[1], x.limit(0, 0), d[2]);
    }
    QuayClock y = new QuayClock();
    y.buyer(0, 1000000);
    y.want(0, 0, 20);
    y.lot(0, 0, 0, 20, 0);
    Check.text(y, 0, "bid 9999*9;");
    Check.due("limit of 1000000 for 20", y.limit(0, 0), 50000);
    Check.text(y, 0, "bid 0-5;");
    Check.due("limit of an E below 0", y.limit(0, 0), -5);
  }

  // 'of the BUYER (in the HALL's text 0)', whatever was asked of a BUYER ahead of it
  private static void hallHasNoBuyer() {
    QuayClock x = oneLot();
    x.lot(0, 0, 0, 2, 0);
    Check.text(x, 0, "bid 60;");
    Check.text(x, -1, "start 50+bought+wanted+credit;least 20+bought*9+wanted*9+credit*9;");
    x.sale();
    Check.due("START", x.told(0, 4), 50);
    Check.due("LEAST", x.told(0, 5), 20);
    Check.due("BOUGHT", x.bought(0, 10), 3);
    Check.due("limit behind the sale", x.limit(0, 0), 60);
    Check.due("without(0)", x.without(0), 10 + 20);
    x.limit(0, 0);
    // 50 and 49 * 2 again, less dues of 1 and 2
    Check.due("without(1)", x.without(1), 49 + 96);
    x.rule(0, 1);
    x.day();
    x.lot(0, 0, 0, 1, 0);
    x.limit(0, 0);
    x.sale();
    Check.due("START on the next day", x.told(0, 4), 50);
    Check.due("LEAST on the next day", x.told(0, 5), 20);
  }
}
