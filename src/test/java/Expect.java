/** What the hand-written tests share: counting answers that are not as due, and telling texts to a desk. */
final class Expect {
  private final String name;
  private int wrong = 0;

  Expect(String name) {
    this.name = name;
  }

  void due(String call, long got, long want) {
    if (got != want) {
      wrong++;
      System.out.println(name + ": " + call + " answered " + got + ", due is " + want);
    }
  }

  void close() {
    System.out.println(name + ": " + (wrong == 0 ? "as due" : wrong + " answers are not as due"));
    if (wrong != 0) {
      System.exit(1);
    }
  }

  /** By fours, as an object is used for 512 calls at most. */
  static void text(WrongsDesk desk, String text) {
    for (int i = 0; i < text.length(); i += 4) {
      int n = Math.min(4, text.length() - i);
      int bytes = 0;
      for (int k = 0; k < n; k++) {
        bytes = bytes << 8 | text.charAt(i + k);
      }
      desk.feed(bytes, n);
    }
  }

  static int law(WrongsDesk desk, int body, int day, String text) {
    text(desk, text);
    return desk.law(body, day);
  }

  /** A desk with a person who is let (0) and one who is not (1), on a day. */
  static WrongsDesk desk(int today) {
    WrongsDesk desk = new WrongsDesk();
    desk.person(1);
    desk.person(0);
    for (int left = today; left > 0; left -= 400) {
      desk.pass(Math.min(left, 400));
    }
    return desk;
  }
}
