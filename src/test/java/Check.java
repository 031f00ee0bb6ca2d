import java.nio.charset.StandardCharsets;

/** What the tests share: comparing answers, counting wrong ones, putting texts on a tape. */
final class Check {
  private static int wrong = 0;

  private Check() {}

  static void due(String call, long got, long want) {
    if (got != want) {
      wrong++;
      System.out.println(call + " answered " + got + ", due is " + want);
    }
  }

  static void due(String call, boolean got, boolean want) {
    due(call, got ? 1 : 0, want ? 1 : 0);
  }

  /** Ends the test: with exit code 1 if an answer was wrong. */
  static void end() {
    if (wrong > 0) {
      System.out.println(wrong + " answers are not as due");
      System.exit(1);
    }
  }

  static boolean isAnyWrong() {
    return wrong > 0;
  }

  /** Feeds a text and takes back the blanks that fill its last twenty bytes. */
  static void put(QuayClock x, String text) {
    byte[] bytes = text.getBytes(StandardCharsets.ISO_8859_1);
    for (int at = 0; at < bytes.length; at += 20) {
      x.feed(four(bytes, at), four(bytes, at + 4), four(bytes, at + 8), four(bytes, at + 12),
          four(bytes, at + 16));
    }
    x.back((20 - bytes.length % 20) % 20);
  }

  static int four(byte[] bytes, int at) {
    int word = 0;
    for (int i = at; i < at + 4; i++) {
      word = word << 8 | (i < bytes.length ? bytes[i] & 255 : ' ');
    }
    return word;
  }

  /** A text that must be read without a FAULT. */
  static void text(QuayClock x, int buyer, String text) {
    put(x, text);
    due("read(" + buyer + ") of '" + text + "'", x.read(buyer), 0);
  }

  /** A text on a new object's tape, read as the HALL's, with its FAULT and the place of it. */
  static void fault(String text, int number, int place) {
    QuayClock x = new QuayClock();
    put(x, text);
    String shown = text.length() > 60 ? text.substring(0, 60) + ".." : text;
    due("read(-1) of '" + shown + "'", x.read(-1), number);
    due("place() of '" + shown + "'", x.place(), place);
    due("count(6) behind '" + shown + "'", x.count(6), 0);
  }
}
