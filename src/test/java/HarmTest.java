/** Promises 27 to 32: what makes harm good, like ones, causes. */
public final class HarmTest {
  private static final Expect E = new Expect("HarmTest");

  public static void main(String[] args) {
    good();
    rates();
    alike();
    unlike();
    causes();
    fewest();
    E.close();
  }

  private static void good() {
    WrongsDesk d = Expect.desk(40);
    Expect.law(d, 0, 0, "owe 1 0;owe 2 0;owe 3 0");
    d.matter(0, 0, 0, 10, 100);
    E.due("good: none", d.good(1, 10), -1);
    E.due("good: ahead", d.good(0, 9), -2);
    E.due("good: above", d.good(0, 10000), -2);
    E.due("good: not due yet", d.good(0, 10), 0);
    E.due("good: at most the loss", d.good(0, 11), 100);
    Expect.law(d, -1, 12, "cap 60");
    E.due("good: ahead of the law", d.good(0, 11), 100);
    E.due("good: at most the cap", d.good(0, 12), 60);
    d.file(0, 1, 10, 0);
    d.file(0, 2, 17, 0);
    d.file(0, 3, 21, 0);
    E.due("good: late without a scale", d.good(0, 40), 0);
    Expect.law(d, -1, 13, "scale 6 3");
    E.due("good: two whole threes and three", d.good(0, 40), 30);
    Expect.law(d, -1, 13, "scale 9999 1");
    E.due("good: at most the loss", d.good(0, 40), 100);
    d.papers(0, 0, 0, 1);
    Expect.law(d, 1, 0, "owe 1 0");
    d.matter(0, 1, 0, 0, 77);
    E.due("good: lacks", d.good(1, 40), 77);
    d.papers(1, 0, 0, 1);
    E.due("good: open is nothing", d.good(1, 40), 0);
    E.due("good: as known ahead", d.good(1, 39), 77);
  }

  private static void rates() {
    WrongsDesk d = Expect.desk(0);
    Expect.law(d, 0, 0, "owe 1 0");
    Expect.law(d, -1, 0, "rate 35");
    d.matter(0, 0, 0, 0, 95);
    E.due("ahead of a year", d.good(0, 364), 95);
    E.due("a year: 98.325", d.good(0, 365), 98);
    E.due("two: 101.65", d.good(0, 730), 101);
    E.due("three: 104.975", d.good(0, 1095), 104);
    E.due("27", d.good(0, 9999), 95 + 95 * 35 * 27 / 1000);
    d.matter(0, 0, 0, 0, 9999);
    Expect.law(d, -1, 0, "rate 9999");
    E.due("the most", d.good(1, 9999), (int) (9999L + 9999L * 9999L * 27L / 1000L));
    Expect.law(d, -1, 1, "rate 9999;cap 0");
    E.due("cap 0", d.good(1, 9999), 0);
  }

  /** Matters of one body that owes 1 and 2, found on a Monday; each is told with its topic and award. */
  private static WrongsDesk found(int[]... told) {
    WrongsDesk d = Expect.desk(21);
    Expect.law(d, 0, 0, "owe 1 0;owe 2 0;owe 1 1");
    Expect.law(d, 1, 0, "owe 1 0;owe 2 0;owe 1 1");
    for (int i = 0; i < told.length; i++) {
      d.matter(0, told[i].length > 2 ? told[i][2] : 0, told[i][0], 0, 10);
      d.ask(i);
      d.find(i, told[i][1]);
    }
    return d;
  }

  private static void alike() {
    WrongsDesk d = found(new int[] {1, 5}, new int[] {1, 6}, new int[] {2, 5}, new int[] {1, 5, 1});
    d.matter(0, 0, 1, 0, 0);
    d.ask(4);
    E.due("alike: none", d.alike(5, 5), -1);
    E.due("alike: none", d.alike(0, -1), -1);
    E.due("alike: one", d.alike(4, 4), -2);
    E.due("alike: not found", d.alike(0, 4), -3);
    E.due("alike: not found", d.alike(4, 0), -3);
    E.due("alike", d.alike(0, 1), 1);
    E.due("alike", d.alike(1, 0), 1);
    E.due("another topic", d.alike(0, 2), 0);
    E.due("another body", d.alike(0, 3), 0);
    d.watch(1, 1, 9);
    E.due("a watched one", d.alike(0, 1), 1);
    d.file(0, 1, 5, 0);
    E.due("late and lacks", d.alike(0, 1), 0);
    d.file(1, 1, 9, 0);
    E.due("both late, by other days", d.alike(0, 1), 1);
    d.file(0, 2, 5, 0);
    d.file(1, 2, 0, 0);
    E.due("late and in time", d.alike(0, 1), 0);
    d.file(0, 2, 0, 0);
    E.due("both in time", d.alike(0, 1), 1);
    d.file(0, 1, 1, 0);
    E.due("as sets: one of two of a sort is late", d.alike(0, 1), 1);
    d.file(0, 1, 0, 0);
    d.file(1, 1, 0, 0);
    E.due("nothing wrong any more in both", d.alike(0, 1), 1);
    WrongsDesk sorts = found(new int[] {1, 5}, new int[] {1, 6});
    sorts.file(0, 1, 5, 0);
    sorts.file(1, 2, 5, 0);
    E.due("alike sorts and alike wrongs, but otherwise together", sorts.alike(0, 1), 0);
    WrongsDesk torn = found(new int[] {1, 5}, new int[] {1, 6});
    torn.papers(0, 0, 0, 1);
    E.due("open ones do not count", torn.alike(0, 1), 0);
    torn.papers(1, 0, 0, 1);
    E.due("open ones do not count", torn.alike(0, 1), 1);
  }

  private static void unlike() {
    WrongsDesk d = found(new int[] {1, 5}, new int[] {2, 6}, new int[] {1, 5}, new int[] {2, 7}, new int[] {1, 6});
    E.due("unlike: what", d.unlike(-1), -1);
    E.due("unlike: what", d.unlike(3), -1);
    E.due("unlike twos", d.unlike(0), 3);
    E.due("the lesser", d.unlike(1), 0);
    E.due("the greater", d.unlike(2), 4);
    d.file(4, 1, 0, 0);
    E.due("unlike twos", d.unlike(0), 1);
    E.due("the lesser", d.unlike(1), 1);
    E.due("the greater", d.unlike(2), 3);
    d.file(1, 1, 0, 0);
    E.due("no unlike twos", d.unlike(0), 0);
    E.due("no lesser", d.unlike(1), -1);
    E.due("no greater", d.unlike(2), -1);
  }

  private static void causes() {
    WrongsDesk d = found(new int[] {1, 5}, new int[] {2, 6}, new int[] {1, 5, 1});
    d.matter(0, 0, 1, 0, 0);
    d.matter(0, 2, 1, 0, 0);
    d.matter(0, 0, 1, 20, 0);
    E.due("cause: body", d.cause(6, 10, 4), -1);
    E.due("cause: body", d.cause(-2, 0, 0), -1);
    E.due("cause: sort", d.cause(0, 10, 0), -2);
    E.due("cause: sort", d.cause(0, -1, 0), -2);
    E.due("cause: wrong", d.cause(0, 0, 4), -2);
    E.due("cause: wrong", d.cause(0, 0, -1), -2);
    WrongsDesk edges = new WrongsDesk();
    E.due("cause: the last of each", edges.cause(5, 9, 3), 0);
    E.due("cause: the first of each", edges.cause(-1, 0, 0), 1);
    int[][] told = {{-1, 0, 0}, {0, 0, 0}, {1, 1, 2}, {-1, 1, 1}, {-1, 2, 3}, {-1, 3, 0}, {2, 0, 0}, {0, 2, 2}};
    for (int n = 0; n < told.length; n++) {
      E.due("cause", d.cause(told[n][0], told[n][1], told[n][2]), n);
    }
    d.file(0, 1, 9, 0);
    d.papers(1, 0, 0, 1);
    int[][] due = {{3, 2}, {2, 2}, {1, 0}, {1, 0}, {1, 0}, {0, 0}, {0, 0}, {1, 2}};
    for (int n = 0; n < due.length; n++) {
      E.due("reaches " + n + " found", d.reaches(n, 0), due[n][0]);
      E.due("reaches " + n + " others", d.reaches(n, 1), due[n][1]);
    }
    d.watch(0, 1, 9);
    E.due("reaches watched ones", d.reaches(0, 0), 3);
    d.file(0, 1, 0, 0);
    d.file(0, 2, 0, 0);
    E.due("reaches none that is not wrong", d.reaches(0, 0), 2);
    E.due("reaches: none", d.reaches(8, 0), -1);
    E.due("reaches: none", d.reaches(-1, 0), -1);
    E.due("reaches: what", d.reaches(0, 2), -1);
    E.due("reaches: what", d.reaches(0, -1), -1);
    for (int n = 8; n < 12; n++) {
      E.due("cause", d.cause(0, 0, 0), n);
    }
    E.due("cause: bad ahead of full", d.cause(0, 0, 4), -2);
    E.due("cause: full", d.cause(0, 0, 0), -4);
    E.due("causes", d.count(7), 12);
  }

  private static void fewest() {
    WrongsDesk d = found(new int[] {1, 5}, new int[] {1, 5}, new int[] {1, 5, 1});
    E.due("fewest of none", d.fewest(), 0);
    d.cause(2, 0, 0);
    E.due("fewest: it reaches none", d.fewest(), 0);
    d.cause(0, 3, 0);
    d.cause(0, 2, 0);
    d.cause(0, 1, 0);
    E.due("fewest: of several the least as bits", d.fewest(), 4);
    d.cause(1, 0, 0);
    E.due("fewest: two", d.fewest(), 4 + 16);
    d.file(0, 2, 0, 0);
    E.due("fewest: the other sort", d.fewest(), 8 + 16);
    d.file(1, 1, 0, 0);
    E.due("fewest: three", d.fewest(), 4 + 8 + 16);
    d.cause(-1, 0, 2);
    E.due("fewest: one for all, though greater as bits", d.fewest(), 32);
    d.matter(0, 2, 1, 0, 0);
    E.due("fewest: not found ones do not count", d.fewest(), 32);
    d.watch(2, 1, 5);
    E.due("fewest: watched ones count", d.fewest(), 32);
  }
}
