/**
 * A fish hall that sells by three falling clocks at once, loads lorries and settles with the boats.
 *
 * Every row and every object is made in a constructor and used again: a call makes none, so that a
 * long run of calls stays as small as a new object.
 */
public final class QuayClock {
  public static final int NONE = -1;

  private static final int REFUSED = -2;

  private static final int MOST_BYTES = 2000;
  private static final int BYTES_OF_A_FEED = 20;
  private static final int MOST_LOTS = 24;
  private static final int MOST_BUYERS = 6;
  private static final int MOST_LORRIES = 6;
  private static final int BOATS = 6;
  private static final int KINDS = 6;
  private static final int SIZES = 4;
  private static final int QUALITIES = 10;
  private static final int TOWNS = 4;
  private static final int MOST_BOXES_OF_A_LOT = 20;
  private static final int MOST_BOXES_WANTED = 500;
  private static final int MOST_BOXES_ON_A_LORRY = 60;
  private static final int MOST_CREDIT = 1000000;
  private static final int LATEST_SECOND = 99999;

  private final Reader reader;
  private final Hall hall;
  private final Sale daySale;
  private final Sale trialSale;
  private final Loader loader;
  private final Lorry[] lorries;
  private int lorryCount;
  private int dayNumber;
  private boolean saleWas;

  public QuayClock() {
    reader = new Reader();
    hall = new Hall();
    daySale = new Sale(hall);
    trialSale = new Sale(hall);
    loader = new Loader();
    lorries = new Lorry[MOST_LORRIES];
    for (int i = 0; i < MOST_LORRIES; i++) {
      lorries[i] = new Lorry();
    }
  }

  public int feed(int a, int b, int c, int d, int e) {
    if (reader.length + BYTES_OF_A_FEED > MOST_BYTES) {
      return NONE;
    }
    reader.putFourBytes(a);
    reader.putFourBytes(b);
    reader.putFourBytes(c);
    reader.putFourBytes(d);
    reader.putFourBytes(e);
    return reader.length;
  }

  public int back(int n) {
    if (n < 0 || n > reader.length) {
      return NONE;
    }
    reader.length -= n;
    return reader.length;
  }

  public int read(int buyer) {
    if (buyer != NONE && !hall.hasBuyer(buyer)) {
      return REFUSED;
    }
    int fault = reader.parse();
    reader.length = 0;
    if (fault == 0) {
      reader.text = hall.exchangeText(buyer, reader.text);
    }
    return fault;
  }

  public int place() {
    return reader.faultPlace;
  }

  public int lot(int boat, int kind, int size, int boxes, int quality) {
    if (saleWas) {
      return NONE;
    }
    if (!isBelow(boat, BOATS) || !isBelow(kind, KINDS) || !isBelow(size, SIZES)) {
      return NONE;
    }
    if (!isWithin(boxes, 1, MOST_BOXES_OF_A_LOT) || !isBelow(quality, QUALITIES)) {
      return NONE;
    }
    return hall.land(boat, kind, size, boxes, quality);
  }

  public int buyer(int town, int credit) {
    if (!isBelow(town, TOWNS) || !isWithin(credit, 0, MOST_CREDIT)) {
      return NONE;
    }
    int number = hall.admit(town, credit);
    if (number != NONE) {
      daySale.purses[number].open(credit);
    }
    return number;
  }

  public boolean want(int buyer, int kind, int boxes) {
    if (!hall.hasBuyer(buyer) || !isBelow(kind, KINDS) || !isWithin(boxes, 0, MOST_BOXES_WANTED)) {
      return false;
    }
    hall.buyers[buyer].wants[kind] = boxes;
    return true;
  }

  public int lorry(int town, int boxes, int leaves) {
    if (lorryCount >= MOST_LORRIES || !isBelow(town, TOWNS)) {
      return NONE;
    }
    if (!isWithin(boxes, 1, MOST_BOXES_ON_A_LORRY) || !isWithin(leaves, 0, LATEST_SECOND)) {
      return NONE;
    }
    int number = lorryCount;
    lorryCount++;
    lorries[number].order(town, boxes, leaves);
    if (saleWas) {
      loader.fill(lorries[number], number, hall, daySale);
    }
    return number;
  }

  public int sale() {
    if (saleWas) {
      return REFUSED;
    }
    saleWas = true;
    daySale.hold(NONE);
    for (int i = 0; i < lorryCount; i++) {
      loader.fill(lorries[i], i, hall, daySale);
    }
    return daySale.lastSecond;
  }

  public int day() {
    if (!saleWas) {
      return NONE;
    }
    daySale.noteLasts();
    hall.lotCount = 0;
    daySale.openPurses();
    saleWas = false;
    dayNumber++;
    return dayNumber;
  }

  public int told(int lot, int what) {
    if (!saleWas || !hall.hasLot(lot)) {
      return NONE;
    }
    return daySale.outcomes[lot].tell(what);
  }

  public int limit(int buyer, int lot) {
    if (!hall.hasBuyer(buyer) || !hall.hasLot(lot)) {
      return NONE;
    }
    return hall.limitOf(buyer, lot, daySale.purses[buyer]);
  }

  public int rule(int buyer, int lot) {
    if (!hall.hasBuyer(buyer) || !hall.hasLot(lot)) {
      return NONE;
    }
    return hall.bidRuleOf(buyer, lot, daySale.purses[buyer]);
  }

  public int bought(int buyer, int what) {
    if (!hall.hasBuyer(buyer)) {
      return NONE;
    }
    Purse purse = daySale.purses[buyer];
    if (isBelow(what - 10, KINDS)) {
      return purse.boxesOfKind[what - 10];
    }
    if (isBelow(what - 20, KINDS)) {
      return hall.stillWanted(buyer, what - 20, purse);
    }
    switch (what) {
      case 0:
        return purse.boxes;
      case 1:
        return purse.left;
      case 2:
        return purse.lots;
      default:
        return NONE;
    }
  }

  public int last(int kind) {
    return isBelow(kind, KINDS) ? hall.lasts[kind] : 0;
  }

  public int gets(int boat) {
    return saleWas && isBelow(boat, BOATS) ? daySale.takingsOf(boat) : NONE;
  }

  public int sum(int what) {
    return saleWas ? daySale.total(what) : NONE;
  }

  public int without(int buyer) {
    if (!saleWas || !hall.hasBuyer(buyer)) {
      return NONE;
    }
    trialSale.hold(buyer);
    return trialSale.takingsOfAll();
  }

  public int load(int lorry, int what) {
    if (!saleWas || lorry < 0 || lorry >= lorryCount) {
      return NONE;
    }
    return lorries[lorry].tell(what);
  }

  public int stays(int town) {
    return saleWas && isBelow(town, TOWNS) ? daySale.boxesLeftFor(town) : NONE;
  }

  public int count(int what) {
    switch (what) {
      case 0:
        return hall.lotCount;
      case 1:
        return hall.buyerCount;
      case 2:
        return lorryCount;
      case 3:
        return dayNumber;
      case 4:
        return saleWas ? 1 : 0;
      case 5:
        return hall.text.ruleCount;
      case 6:
        return reader.length;
      default:
        return NONE;
    }
  }

  private static boolean isBelow(int n, int bound) {
    return n >= 0 && n < bound;
  }

  private static boolean isWithin(int n, int least, int most) {
    return n >= least && n <= most;
  }

  /** A text that was read: each E and COND of its RULES is operands with operators behind them. */
  private static final class Text {
    /** Tokens as numbers: words by their place in WORDS, then signs; an INT n is FIRST_INT + n. */
    static final int BID = 0;
    static final int START = 1;
    static final int LEAST = 2;
    static final int IF = 3;
    static final int OR = 4;
    static final int AND = 5;
    static final int FIRST_VARIABLE = 6;
    static final int LAST_VARIABLE = 15;
    static final int SEMICOLON = 16;
    static final int PLUS = 17;
    static final int MINUS = 18;
    static final int TIMES = 19;
    static final int EQUAL = 20;
    static final int UNEQUAL = 21;
    static final int LESS = 22;
    static final int AT_MOST = 23;
    static final int OPEN = 24;
    static final int CLOSE = 25;
    static final int UNKNOWN = 26;
    static final int END = 27;
    static final int FIRST_INT = 32;

    static final int MOST_RULES = 20;
    static final int MOST_TOKENS = 400;
    /** No less than 3 for each of 6 open parentheses, 5 outside of them, and 1 more. */
    static final int MOST_WAITING = 32;

    int ruleCount;
    private final int[] ruleWord = new int[MOST_RULES];
    private final int[] valueFrom = new int[MOST_RULES];
    private final int[] valueEnd = new int[MOST_RULES];
    private final int[] conditionEnd = new int[MOST_RULES];
    private final int[] code = new int[MOST_TOKENS];
    private int codeLength;
    private final int[] waiting = new int[MOST_WAITING];

    static boolean isOperand(int token) {
      return token >= FIRST_INT || (token >= FIRST_VARIABLE && token <= LAST_VARIABLE);
    }

    static boolean isRelation(int token) {
      return token >= EQUAL && token <= AT_MOST;
    }

    void clearRules() {
      ruleCount = 0;
      codeLength = 0;
    }

    void beginRule(int word) {
      if (ruleCount < MOST_RULES) {
        ruleWord[ruleCount] = word;
        valueFrom[ruleCount] = codeLength;
      }
    }

    void addCode(int token) {
      if (codeLength < MOST_TOKENS) {
        code[codeLength] = token;
        codeLength++;
      }
    }

    void endValue() {
      if (ruleCount < MOST_RULES) {
        valueEnd[ruleCount] = codeLength;
      }
    }

    void endRule() {
      if (ruleCount < MOST_RULES) {
        conditionEnd[ruleCount] = codeLength;
        ruleCount++;
      }
    }

    int firstThatHolds(int word, int[] variables) {
      for (int r = 0; r < ruleCount; r++) {
        boolean always = valueEnd[r] == conditionEnd[r];
        if (ruleWord[r] == word
            && (always || compute(valueEnd[r], conditionEnd[r], variables) != 0)) {
          return r;
        }
      }
      return NONE;
    }

    int valueOrElse(int word, int[] variables, int otherwise) {
      int r = firstThatHolds(word, variables);
      return r == NONE ? otherwise : compute(valueFrom[r], valueEnd[r], variables);
    }

    private int compute(int from, int end, int[] variables) {
      int depth = 0;
      for (int i = from; i < end && i < codeLength; i++) {
        int token = code[i];
        if (isOperand(token)) {
          if (depth < MOST_WAITING) {
            waiting[depth] = worth(token, variables);
            depth++;
          }
        } else if (depth >= 2) {
          waiting[depth - 2] = combine(token, waiting[depth - 2], waiting[depth - 1]);
          depth--;
        }
      }
      return waiting[0];
    }

    private static int worth(int token, int[] variables) {
      if (token >= FIRST_INT) {
        return token - FIRST_INT;
      }
      int v = token - FIRST_VARIABLE;
      return v >= 0 && v < variables.length ? variables[v] : 0;
    }

    private static int combine(int operator, int left, int right) {
      switch (operator) {
        case PLUS:
          return left + right;
        case MINUS:
          return left - right;
        case TIMES:
          return left * right;
        case EQUAL:
          return left == right ? 1 : 0;
        case UNEQUAL:
          return left != right ? 1 : 0;
        case LESS:
          return left < right ? 1 : 0;
        case AT_MOST:
          return left <= right ? 1 : 0;
        case AND:
          return left & right;
        default:
          return left | right;
      }
    }
  }

  /** Reads a tape into a Text, token by token, and stops at the first FAULT. */
  private static final class Reader {
    private static final int SYNTAX = 1;
    private static final int ROOM = 2;
    private static final int MOST_OPEN = 6;
    private static final int LONGEST_INT = 4;
    private static final int LONGEST_WORD = 8;
    private static final int WORD_COUNT = 16;
    /** LONGEST_WORD columns for each, so that a word's token is its column over that width. */
    private static final String WORDS =
        "bid     start   least   if      or      and     boat    kind    size    boxes   quality last    bought  wanted  credit  lot     ";

    /** Where the next token stands: first in a RULE, first in a UNIT, or behind a UNIT. */
    private static final int RULE_FIRST = 0;
    private static final int UNIT_FIRST = 1;
    private static final int UNIT_BEHIND = 2;

    /** Which E of a RULE it is in: its own, or the left or the right one of a REL. */
    private static final int VALUE = 0;
    private static final int LEFT = 1;
    private static final int RIGHT = 2;

    int length;
    int faultPlace = NONE;
    /** What is read into: a text of no one's, exchanged for the old one when it was read. */
    Text text = new Text();
    private final char[] tape = new char[MOST_BYTES];
    private int at;
    private int tokenFrom;
    private int tokenCount;
    private int state;
    private int part;
    private int openCount;
    /** Operators and '(' that the code does not have yet, as what is on their right is not read. */
    private final int[] pending = new int[Text.MOST_WAITING];
    private int pendingCount;

    void putFourBytes(int four) {
      for (int shift = 24; shift >= 0 && length < MOST_BYTES; shift -= 8) {
        tape[length] = (char) ((four >>> shift) & 255);
        length++;
      }
    }

    /** Reads the tape into the text: 0, or the number of the first FAULT. */
    int parse() {
      begin();
      int fault = 0;
      boolean ended = false;
      for (int i = 0; i <= length && !ended; i++) {
        int token = nextToken();
        fault = faultOf(token);
        ended = fault != 0 || token == Text.END;
        if (!ended) {
          take(token);
        }
      }
      faultPlace = fault == 0 ? NONE : tokenFrom;
      return fault;
    }

    private void begin() {
      text.clearRules();
      at = 0;
      tokenCount = 0;
      state = RULE_FIRST;
      openCount = 0;
      pendingCount = 0;
    }

    private int faultOf(int token) {
      if (!fits(token)) {
        return SYNTAX;
      }
      return hasRoomFor(token) ? 0 : ROOM;
    }

    private boolean fits(int token) {
      if (state == RULE_FIRST) {
        return token == Text.BID || token == Text.START || token == Text.LEAST
            || token == Text.END;
      }
      if (state == UNIT_FIRST) {
        return token == Text.OPEN || Text.isOperand(token);
      }
      if (token == Text.PLUS || token == Text.MINUS || token == Text.TIMES) {
        return true;
      }
      if (openCount > 0) {
        return token == Text.CLOSE;
      }
      if (part == LEFT) {
        return Text.isRelation(token);
      }
      if (part == RIGHT) {
        return token == Text.AND || token == Text.OR || token == Text.SEMICOLON;
      }
      return token == Text.IF || token == Text.SEMICOLON;
    }

    private boolean hasRoomFor(int token) {
      if (token == Text.END) {
        return true;
      }
      if (tokenCount >= Text.MOST_TOKENS) {
        return false;
      }
      if (state == RULE_FIRST) {
        return text.ruleCount < Text.MOST_RULES;
      }
      return token != Text.OPEN || openCount < MOST_OPEN;
    }

    private void take(int token) {
      tokenCount++;
      if (state == RULE_FIRST) {
        text.beginRule(token);
        part = VALUE;
        state = UNIT_FIRST;
      } else if (state == UNIT_BEHIND) {
        takeBehindUnit(token);
      } else if (token == Text.OPEN) {
        openCount++;
        pend(token);
      } else {
        text.addCode(token);
        state = UNIT_BEHIND;
      }
    }

    private void takeBehindUnit(int token) {
      settle(rank(token));
      if (token == Text.CLOSE) {
        openCount--;
        dropOpen();
      } else if (token == Text.SEMICOLON) {
        if (part == VALUE) {
          text.endValue();
        }
        text.endRule();
        state = RULE_FIRST;
      } else if (token == Text.IF) {
        text.endValue();
        part = LEFT;
        state = UNIT_FIRST;
      } else {
        takeOperator(token);
      }
    }

    private void takeOperator(int token) {
      pend(token);
      state = UNIT_FIRST;
      if (Text.isRelation(token)) {
        part = RIGHT;
      } else if (token == Text.AND || token == Text.OR) {
        part = LEFT;
      }
    }

    private void pend(int token) {
      if (pendingCount < pending.length) {
        pending[pendingCount] = token;
        pendingCount++;
      }
    }

    /** What waits has its right side whole once a token of no higher rank is behind that. */
    private void settle(int rank) {
      while (pendingCount > 0 && rank(pending[pendingCount - 1]) >= rank) {
        pendingCount--;
        text.addCode(pending[pendingCount]);
      }
    }

    private void dropOpen() {
      if (pendingCount > 0) {
        pendingCount--;
      }
    }

    /** ')', 'if' and ';' stand with 'or': they settle all that waits behind the latest '('. */
    private static int rank(int token) {
      switch (token) {
        case Text.TIMES:
          return 5;
        case Text.PLUS:
        case Text.MINUS:
          return 4;
        case Text.EQUAL:
        case Text.UNEQUAL:
        case Text.LESS:
        case Text.AT_MOST:
          return 3;
        case Text.AND:
          return 2;
        case Text.OPEN:
          return 0;
        default:
          return 1;
      }
    }

    private int nextToken() {
      while (at < length && isBlank(tape[at])) {
        at++;
      }
      tokenFrom = at;
      if (at >= length) {
        return Text.END;
      }
      char first = tape[at];
      if (isLetter(first)) {
        return wordToken();
      }
      return isDigit(first) ? intToken() : signToken(first);
    }

    private int wordToken() {
      while (at < length && isLetter(tape[at])) {
        at++;
      }
      if (at - tokenFrom > LONGEST_WORD) {
        return Text.UNKNOWN;
      }
      for (int word = 0; word < WORD_COUNT; word++) {
        if (isTokenTheWord(word)) {
          return word;
        }
      }
      return Text.UNKNOWN;
    }

    private boolean isTokenTheWord(int word) {
      int column = word * LONGEST_WORD;
      for (int i = 0; i < LONGEST_WORD && column + i < WORDS.length(); i++) {
        char due = tokenFrom + i < at ? tape[tokenFrom + i] : ' ';
        if (WORDS.charAt(column + i) != due) {
          return false;
        }
      }
      return true;
    }

    private int intToken() {
      int value = 0;
      while (at < length && isDigit(tape[at])) {
        value = value * 10 + (tape[at] - '0');
        at++;
      }
      return at - tokenFrom > LONGEST_INT ? Text.UNKNOWN : Text.FIRST_INT + value;
    }

    private int signToken(char first) {
      at++;
      switch (first) {
        case ';':
          return Text.SEMICOLON;
        case '+':
          return Text.PLUS;
        case '-':
          return Text.MINUS;
        case '*':
          return Text.TIMES;
        case '(':
          return Text.OPEN;
        case ')':
          return Text.CLOSE;
        case '=':
          return withEqualSign(Text.EQUAL, Text.UNKNOWN);
        case '!':
          return withEqualSign(Text.UNEQUAL, Text.UNKNOWN);
        case '<':
          return withEqualSign(Text.AT_MOST, Text.LESS);
        default:
          return Text.UNKNOWN;
      }
    }

    private int withEqualSign(int with, int alone) {
      if (at < length && tape[at] == '=') {
        at++;
        return with;
      }
      return alone;
    }

    private static boolean isBlank(char c) {
      return c == 9 || c == 10 || c == 13 || c == 32;
    }

    private static boolean isLetter(char c) {
      return c >= 'a' && c <= 'z';
    }

    private static boolean isDigit(char c) {
      return c >= '0' && c <= '9';
    }
  }

  /** A LOT as it landed. */
  private static final class Lot {
    int boat;
    int kind;
    int size;
    int boxes;
    int quality;
  }

  /** A BUYER with what no SALE changes. */
  private static final class Buyer {
    int town;
    int credit;
    final int[] wants = new int[KINDS];
    Text text = new Text();
  }

  /** What a BUYER has left and has BOUGHT in a day. */
  private static final class Purse {
    int left;
    int boxes;
    int lots;
    final int[] boxesOfKind = new int[KINDS];
    int stoppedAt;

    void open(int credit) {
      left = credit;
      boxes = 0;
      lots = 0;
      stoppedAt = NONE;
      for (int kind = 0; kind < KINDS; kind++) {
        boxesOfKind[kind] = 0;
      }
    }

    void pay(int money, Lot lot, int second) {
      left -= money;
      boxes += lot.boxes;
      lots++;
      boxesOfKind[lot.kind] += lot.boxes;
      stoppedAt = second;
    }
  }

  /** What stands from one SALE to the next: LOTS, BUYERS, LASTS and the HALL's text. */
  private static final class Hall {
    private static final int VARIABLES = 10;
    private static final int BOAT = 0;
    private static final int KIND = 1;
    private static final int SIZE = 2;
    private static final int BOXES = 3;
    private static final int QUALITY = 4;
    private static final int LAST = 5;
    private static final int BOUGHT = 6;
    private static final int WANTED = 7;
    private static final int CREDIT = 8;
    private static final int LOT = 9;

    private static final int USUAL_START = 100;
    private static final int GREATEST_START = 999;

    final Lot[] lots = new Lot[MOST_LOTS];
    int lotCount;
    final Buyer[] buyers = new Buyer[MOST_BUYERS];
    int buyerCount;
    final int[] lasts = new int[KINDS];
    Text text = new Text();
    private final int[] variables = new int[VARIABLES];

    Hall() {
      for (int i = 0; i < MOST_LOTS; i++) {
        lots[i] = new Lot();
      }
      for (int i = 0; i < MOST_BUYERS; i++) {
        buyers[i] = new Buyer();
      }
    }

    boolean hasLot(int number) {
      return number >= 0 && number < lotCount;
    }

    boolean hasBuyer(int number) {
      return number >= 0 && number < buyerCount;
    }

    int land(int boat, int kind, int size, int boxes, int quality) {
      if (lotCount >= MOST_LOTS) {
        return NONE;
      }
      Lot landed = lots[lotCount];
      landed.boat = boat;
      landed.kind = kind;
      landed.size = size;
      landed.boxes = boxes;
      landed.quality = quality;
      lotCount++;
      return lotCount - 1;
    }

    int admit(int town, int credit) {
      if (buyerCount >= MOST_BUYERS) {
        return NONE;
      }
      buyers[buyerCount].town = town;
      buyers[buyerCount].credit = credit;
      buyerCount++;
      return buyerCount - 1;
    }

    /** Puts a text in place of a BUYER's or (NONE) the HALL's; answers the one that it had. */
    Text exchangeText(int buyer, Text fresh) {
      Text old = text;
      if (hasBuyer(buyer)) {
        old = buyers[buyer].text;
        buyers[buyer].text = fresh;
      } else {
        text = fresh;
      }
      return old;
    }

    int startOf(int lot) {
      setLotVariables(lot);
      return heldTo(text.valueOrElse(Text.START, variables, USUAL_START), GREATEST_START);
    }

    int leastOf(int lot, int start) {
      setLotVariables(lot);
      return heldTo(text.valueOrElse(Text.LEAST, variables, 1), start);
    }

    private static int heldTo(int value, int most) {
      return Math.max(1, Math.min(value, most));
    }

    int limitOf(int buyer, int lot, Purse purse) {
      int boxes = lots[lot].boxes;
      setBuyerVariables(buyer, lot, purse);
      if (boxes < 1 || variables[WANTED] < boxes) {
        return 0;
      }
      int bid = buyers[buyer].text.valueOrElse(Text.BID, variables, 0);
      return Math.min(bid, purse.left / boxes);
    }

    int bidRuleOf(int buyer, int lot, Purse purse) {
      setBuyerVariables(buyer, lot, purse);
      return buyers[buyer].text.firstThatHolds(Text.BID, variables);
    }

    int stillWanted(int buyer, int kind, Purse purse) {
      return Math.max(0, buyers[buyer].wants[kind] - purse.boxesOfKind[kind]);
    }

    private void setLotVariables(int number) {
      Lot lot = lots[number];
      variables[BOAT] = lot.boat;
      variables[KIND] = lot.kind;
      variables[SIZE] = lot.size;
      variables[BOXES] = lot.boxes;
      variables[QUALITY] = lot.quality;
      variables[LAST] = lasts[lot.kind];
      variables[BOUGHT] = 0;
      variables[WANTED] = 0;
      variables[CREDIT] = 0;
      variables[LOT] = number;
    }

    private void setBuyerVariables(int buyer, int number, Purse purse) {
      setLotVariables(number);
      int kind = lots[number].kind;
      variables[BOUGHT] = purse.boxesOfKind[kind];
      variables[WANTED] = stillWanted(buyer, kind, purse);
      variables[CREDIT] = purse.left;
    }
  }

  /** How a LOT went in a SALE. */
  private static final class Outcome {
    int buyer;
    int price;
    int second;
    int clock;
    int start;
    int least;
    int brings;
    int lorry;

    boolean isSold() {
      return buyer != NONE;
    }

    int tell(int what) {
      switch (what) {
        case 0:
          return buyer;
        case 1:
          return price;
        case 2:
          return second;
        case 3:
          return clock;
        case 4:
          return start;
        case 5:
          return least;
        case 6:
          return brings;
        case 7:
          return lorry;
        default:
          return NONE;
      }
    }
  }

  /** A falling CLOCK with the LIMITS of all BUYERS for the LOT that it has. */
  private static final class Clock {
    int lot;
    int price;
    int least;
    int filledAt;
    final int[] limits = new int[MOST_BUYERS];

    boolean isEmpty() {
      return lot == NONE;
    }

    /** How long nothing can happen: till the price is at LEAST or at the greatest LIMIT. */
    int quietSeconds(int buyerCount) {
      int stop = least;
      for (int b = 0; b < buyerCount && b < MOST_BUYERS; b++) {
        stop = Math.max(stop, limits[b]);
      }
      return stop < price ? price - stop : 0;
    }
  }

  /** THE SALE of a day, or one as it would have been without a BUYER. */
  private static final class Sale {
    private static final int CLOCKS = 3;
    private static final int LONGEST_QUIET = 999;

    private final Hall hall;
    final Outcome[] outcomes = new Outcome[MOST_LOTS];
    final Purse[] purses = new Purse[MOST_BUYERS];
    int lastSecond;
    private final Clock[] clocks = new Clock[CLOCKS];
    private int absent;
    private int second;
    private int nextLot;
    private int settledLots;

    Sale(Hall ofHall) {
      hall = ofHall;
      for (int i = 0; i < MOST_LOTS; i++) {
        outcomes[i] = new Outcome();
      }
      for (int i = 0; i < MOST_BUYERS; i++) {
        purses[i] = new Purse();
      }
      for (int i = 0; i < CLOCKS; i++) {
        clocks[i] = new Clock();
      }
    }

    void openPurses() {
      for (int b = 0; b < hall.buyerCount; b++) {
        purses[b].open(hall.buyers[b].credit);
      }
    }

    /** A turn for each SECOND that ends some LOT's sale; the quiet ones between are passed over. */
    void hold(int absentBuyer) {
      begin(absentBuyer);
      for (int turn = 0; turn < hall.lotCount && settledLots < hall.lotCount; turn++) {
        fillClocks();
        refreshLimits();
        passQuietSeconds();
        stopClocks();
        lowerClocks();
        second++;
      }
    }

    private void begin(int absentBuyer) {
      absent = absentBuyer;
      lastSecond = NONE;
      second = 0;
      nextLot = 0;
      settledLots = 0;
      openPurses();
      for (int c = 0; c < CLOCKS; c++) {
        clocks[c].lot = NONE;
      }
      for (int lot = 0; lot < hall.lotCount; lot++) {
        Outcome outcome = outcomes[lot];
        outcome.buyer = NONE;
        outcome.lorry = NONE;
        outcome.start = hall.startOf(lot);
        outcome.least = hall.leastOf(lot, outcome.start);
      }
    }

    private void fillClocks() {
      for (int c = 0; c < CLOCKS && nextLot < hall.lotCount; c++) {
        Clock clock = clocks[c];
        if (clock.isEmpty()) {
          clock.lot = nextLot;
          clock.price = outcomes[nextLot].start;
          clock.least = outcomes[nextLot].least;
          clock.filledAt = second;
          nextLot++;
        }
      }
    }

    /** A LIMIT changes only by what its BUYER buys, so the others are kept as they are. */
    private void refreshLimits() {
      for (int c = 0; c < CLOCKS; c++) {
        Clock clock = clocks[c];
        for (int b = 0; b < hall.buyerCount && !clock.isEmpty(); b++) {
          if (clock.filledAt == second || purses[b].stoppedAt == second - 1) {
            clock.limits[b] = b == absent ? 0 : hall.limitOf(b, clock.lot, purses[b]);
          }
        }
      }
    }

    private void passQuietSeconds() {
      int quiet = LONGEST_QUIET;
      for (int c = 0; c < CLOCKS; c++) {
        if (!clocks[c].isEmpty()) {
          quiet = Math.min(quiet, clocks[c].quietSeconds(hall.buyerCount));
        }
      }
      for (int c = 0; c < CLOCKS; c++) {
        if (!clocks[c].isEmpty()) {
          clocks[c].price -= quiet;
        }
      }
      second += quiet;
    }

    private void stopClocks() {
      for (int c = 0; c < CLOCKS; c++) {
        Clock clock = clocks[c];
        int buyer = clock.isEmpty() ? NONE : whoStops(clock);
        if (buyer != NONE) {
          sell(clock, buyer);
          settle(c, clock.price);
        }
      }
    }

    private int whoStops(Clock clock) {
      int best = NONE;
      for (int b = 0; b < hall.buyerCount; b++) {
        boolean can = purses[b].stoppedAt != second && clock.limits[b] >= clock.price;
        if (can && (best == NONE || clock.limits[b] > clock.limits[best])) {
          best = b;
        }
      }
      return best;
    }

    private void sell(Clock clock, int buyer) {
      Lot lot = hall.lots[clock.lot];
      Outcome outcome = outcomes[clock.lot];
      int money = clock.price * lot.boxes;
      outcome.buyer = buyer;
      outcome.brings = money - money * 3 / 100;
      purses[buyer].pay(money, lot, second);
    }

    private void lowerClocks() {
      for (int c = 0; c < CLOCKS; c++) {
        Clock clock = clocks[c];
        if (!clock.isEmpty()) {
          if (clock.price <= clock.least) {
            outcomes[clock.lot].brings = clock.least * hall.lots[clock.lot].boxes / 2;
            settle(c, clock.least);
          } else {
            clock.price--;
          }
        }
      }
    }

    private void settle(int c, int price) {
      Outcome outcome = outcomes[clocks[c].lot];
      outcome.price = price;
      outcome.second = second;
      outcome.clock = c;
      clocks[c].lot = NONE;
      lastSecond = second;
      settledLots++;
    }

    void noteLasts() {
      for (int kind = 0; kind < KINDS; kind++) {
        int latest = soldLast(kind);
        if (latest != NONE) {
          hall.lasts[kind] = outcomes[latest].price;
        }
      }
    }

    private int soldLast(int kind) {
      int latest = NONE;
      for (int lot = 0; lot < hall.lotCount; lot++) {
        boolean counts = hall.lots[lot].kind == kind && outcomes[lot].isSold();
        if (counts && (latest == NONE || isLater(outcomes[lot], outcomes[latest]))) {
          latest = lot;
        }
      }
      return latest;
    }

    private static boolean isLater(Outcome one, Outcome other) {
      return one.second > other.second || (one.second == other.second && one.clock < other.clock);
    }

    int takingsOf(int boat) {
      int takings = 0;
      for (int lot = 0; lot < hall.lotCount; lot++) {
        takings += hall.lots[lot].boat == boat ? outcomes[lot].brings : 0;
      }
      return takings;
    }

    int takingsOfAll() {
      int takings = 0;
      for (int lot = 0; lot < hall.lotCount; lot++) {
        takings += outcomes[lot].brings;
      }
      return takings;
    }

    int total(int what) {
      if (what < 0 || what > 4) {
        return NONE;
      }
      int total = 0;
      for (int lot = 0; lot < hall.lotCount; lot++) {
        total += outcomes[lot].isSold() ? partOfSold(lot, what) : partOfWithdrawn(lot, what);
      }
      return total;
    }

    private int partOfSold(int lot, int what) {
      int boxes = hall.lots[lot].boxes;
      int money = outcomes[lot].price * boxes;
      switch (what) {
        case 0:
          return money;
        case 1:
          return money - outcomes[lot].brings;
        case 4:
          return boxes;
        default:
          return 0;
      }
    }

    private int partOfWithdrawn(int lot, int what) {
      switch (what) {
        case 2:
          return outcomes[lot].brings;
        case 3:
          return 1;
        default:
          return 0;
      }
    }

    boolean isSoldTo(int town, int lot) {
      int buyer = outcomes[lot].buyer;
      return hall.hasBuyer(buyer) && hall.buyers[buyer].town == town;
    }

    int boxesLeftFor(int town) {
      int boxes = 0;
      for (int lot = 0; lot < hall.lotCount; lot++) {
        boolean stands = isSoldTo(town, lot) && outcomes[lot].lorry == NONE;
        boxes += stands ? hall.lots[lot].boxes : 0;
      }
      return boxes;
    }
  }

  /** A LORRY and the LOTS that are on it. */
  private static final class Lorry {
    int town;
    int room;
    int leaves;
    private int boxes;
    private final int[] lots = new int[MOST_LOTS];
    private int lotCount;

    void order(int toTown, int boxRoom, int atSecond) {
      town = toTown;
      room = boxRoom;
      leaves = atSecond;
    }

    void empty() {
      boxes = 0;
      lotCount = 0;
    }

    void put(int lot, int boxesOfLot) {
      if (lotCount < MOST_LOTS) {
        lots[lotCount] = lot;
        lotCount++;
        boxes += boxesOfLot;
      }
    }

    int tell(int what) {
      if (what >= 10 && what - 10 < lotCount) {
        return lots[what - 10];
      }
      switch (what) {
        case 0:
          return boxes;
        case 1:
          return lotCount;
        default:
          return NONE;
      }
    }
  }

  /** Finds the LOTS for a LORRY: the most BOXES, then the fewest LOTS, then the least numbers. */
  private static final class Loader {
    private static final int IMPOSSIBLE = 1000;

    private final int[] lots = new int[MOST_LOTS];
    private final int[] boxes = new int[MOST_LOTS];
    private int lotCount;
    /** The fewest of the LOTS from the i-th on that have so many BOXES together. */
    private final int[][] fewest = new int[MOST_LOTS + 1][MOST_BOXES_ON_A_LORRY + 1];

    void fill(Lorry lorry, int number, Hall hall, Sale sale) {
      int room = Math.min(lorry.room, MOST_BOXES_ON_A_LORRY);
      gather(lorry, hall, sale);
      countFewest(room);
      lorry.empty();
      int rest = mostBoxes(room);
      for (int i = 0; i < lotCount; i++) {
        int before = fewest[i][rest];
        if (boxes[i] <= rest && fewest[i + 1][rest - boxes[i]] + 1 == before) {
          rest -= boxes[i];
          lorry.put(lots[i], boxes[i]);
          sale.outcomes[lots[i]].lorry = number;
        }
      }
    }

    private void gather(Lorry lorry, Hall hall, Sale sale) {
      lotCount = 0;
      for (int lot = 0; lot < hall.lotCount; lot++) {
        Outcome outcome = sale.outcomes[lot];
        int boxesOfLot = hall.lots[lot].boxes;
        boolean isFree = outcome.lorry == NONE && sale.isSoldTo(lorry.town, lot);
        if (isFree && outcome.second + boxesOfLot <= lorry.leaves) {
          lots[lotCount] = lot;
          boxes[lotCount] = boxesOfLot;
          lotCount++;
        }
      }
    }

    private void countFewest(int room) {
      for (int sum = 0; sum <= room; sum++) {
        fewest[lotCount][sum] = sum == 0 ? 0 : IMPOSSIBLE;
      }
      for (int i = lotCount - 1; i >= 0; i--) {
        for (int sum = 0; sum <= room; sum++) {
          int without = fewest[i + 1][sum];
          int with = boxes[i] <= sum ? fewest[i + 1][sum - boxes[i]] + 1 : IMPOSSIBLE;
          fewest[i][sum] = Math.min(without, with);
        }
      }
    }

    private int mostBoxes(int room) {
      int most = 0;
      for (int sum = 1; sum <= room; sum++) {
        if (fewest[0][sum] < IMPOSSIBLE) {
          most = sum;
        }
      }
      return most;
    }
  }
}
