/** The edges of reports, hands, weeks, acts and tapes: fewer than, just one, apart, behind its day, wrapping, cut. */
public final class ReportEdgesTest {
  private static final Expect E = new Expect("ReportEdgesTest");
  private static final long NO = Long.MIN_VALUE;

  public static void main(String[] args) {
    fewerThan();
    onePerson();
    justOne();
    notJustOne();
    manyRows();
    asItWas();
    grades();
    habits();
    agreed();
    missed();
    over();
    weekAnew();
    sevenWays();
    inTheWeek();
    orders();
    wrapping();
    cut();
    anew();
    shifts();
    E.close();
  }

  /** A desk with matters, each told with its person (0 is let, 1 and 2 are not) and its topic. */
  private static WrongsDesk told(int[]... matters) {
    WrongsDesk d = Expect.desk(5);
    d.person(0);
    for (int[] m : matters) {
      d.matter(m[0], 0, m[1], 0, 0);
    }
    return d;
  }

  /** How many matters each row shows; -3 for one that is hidden. */
  private static void rows(String call, WrongsDesk d, int columns, int... due) {
    E.due(call + ": rows", d.report(columns), due.length);
    for (int i = 0; i < due.length; i++) {
      for (int what = 0; what < 4; what++) {
        long got = d.row(i, what);
        if (due[i] < 0 || what == 0) {
          E.due(call + ": row " + i + ", " + what, got, due[i]);
        }
      }
    }
    E.due(call + ": no more rows", d.row(due.length, 0), -1);
  }

  private static void fewerThan() {
    WrongsDesk d = told(new int[] {0, 0}, new int[] {0, 1}, new int[] {0, 1}, new int[] {0, 2}, new int[] {0, 2},
        new int[] {0, 2}, new int[] {0, 3}, new int[] {0, 3}, new int[] {0, 3}, new int[] {0, 3});
    rows("T6 without a law", d, 2, 1, 2, 3, 4);
    Expect.law(d, -1, 0, "few 0");
    rows("T6 few 0", d, 2, 1, 2, 3, 4);
    Expect.law(d, -1, 0, "few 1");
    rows("T6 few 1", d, 2, 1, 2, 3, 4);
    Expect.law(d, -1, 0, "few 2");
    rows("T6 few 2: one, and the least of the others", d, 2, -3, -3, 3, 4);
    Expect.law(d, -1, 0, "few 3");
    rows("T6 few 3", d, 2, -3, -3, 3, 4);
    Expect.law(d, -1, 5, "few 4");
    rows("T6 few 4, from today on", d, 2, -3, -3, -3, 4);
    Expect.law(d, -1, 6, "few 5");
    rows("T6 few 5, not from today on", d, 2, -3, -3, -3, 4);
    d.pass(1);
    rows("T6 few 5", d, 2, -3, -3, -3, -3);
    Expect.law(d, 0, 6, "few 0");
    rows("T6 a body's few does not count", d, 2, -3, -3, -3, -3);
  }

  private static void onePerson() {
    WrongsDesk d = told(new int[] {1, 0}, new int[] {1, 0}, new int[] {1, 1}, new int[] {2, 1}, new int[] {0, 2},
        new int[] {0, 2}, new int[] {2, 3});
    rows("T6 of one who is not let; of two; of one who is let", d, 2, -3, 2, 2, -3);
    rows("T6 of all", d, 0, 7);
    d.let(1, 1);
    d.let(2, 1);
    rows("T6 all are let", d, 2, 2, 2, 2, 1);
    d.let(0, 0);
    d.let(2, 0);
    rows("T6 let as it is now", d, 2, 2, 2, -3, -3);
    WrongsDesk last = told(new int[] {1, 0}, new int[] {1, 0}, new int[] {0, 0}, new int[] {1, 1}, new int[] {2, 2},
        new int[] {1, 2}, new int[] {1, 2}, new int[] {1, 3});
    rows("T6 the last of another, the first of another", last, 2, 3, -3, 3, -3);
  }

  /** Just one is hidden: then that of the others with the fewest is, of several the first. */
  private static void justOne() {
    WrongsDesk d = told(new int[] {0, 0}, new int[] {1, 1}, new int[] {0, 2});
    rows("T6 the first of two with one", d, 2, -3, -3, 1);
    d = told(new int[] {1, 0}, new int[] {0, 1}, new int[] {0, 2});
    rows("T6 the first is the hidden one", d, 2, -3, -3, 1);
    d = told(new int[] {1, 0}, new int[] {0, 1}, new int[] {0, 1}, new int[] {0, 2});
    rows("T6 the last has the fewest", d, 2, -3, 2, -3);
    d = told(new int[] {0, 0}, new int[] {0, 1}, new int[] {0, 1}, new int[] {1, 2});
    rows("T6 the first has the fewest", d, 2, -3, 2, -3);
    d = told(new int[] {0, 0}, new int[] {0, 0}, new int[] {0, 1}, new int[] {0, 1}, new int[] {1, 2}, new int[] {1, 2},
        new int[] {1, 2});
    rows("T6 the hidden one has the most", d, 2, -3, 2, -3);
    d = told(new int[] {0, 0}, new int[] {0, 0}, new int[] {0, 0}, new int[] {0, 1}, new int[] {0, 1}, new int[] {0, 1},
        new int[] {0, 2}, new int[] {0, 2}, new int[] {1, 3});
    rows("T6 one in the middle has the fewest", d, 2, 3, 3, -3, -3);
    d = told(new int[] {1, 4}, new int[] {1, 4});
    rows("T6 there is no other", d, 2, -3);
    rows("T6 there is no other", d, 0, -3);
  }

  private static void notJustOne() {
    WrongsDesk d = told(new int[] {1, 0}, new int[] {0, 1}, new int[] {2, 2}, new int[] {0, 3});
    rows("T6 two are hidden, and no third", d, 2, -3, 1, -3, 1);
    d = told(new int[] {1, 0}, new int[] {2, 1}, new int[] {1, 2}, new int[] {0, 3});
    rows("T6 three are hidden, and no fourth", d, 2, -3, -3, -3, 1);
    d = told(new int[] {1, 0}, new int[] {2, 1});
    rows("T6 all are hidden", d, 2, -3, -3);
    d = told(new int[] {0, 0}, new int[] {0, 1});
    rows("T6 none is hidden", d, 2, 1, 1);
  }

  private static void manyRows() {
    WrongsDesk d = Expect.desk(5);
    for (int m = 39; m >= 0; m--) {
      d.matter(0, m % 6, m / 6 + 3, 0, 0);
    }
    E.due("P33 as many rows as matters", d.report(3), 40);
    int i = 0;
    for (int body = 0; body < 6; body++) {
      for (int topic = 3; topic < 10 && (topic - 3) * 6 + body < 40; topic++) {
        E.due("T6 its matters", d.row(i, 0), 1);
        E.due("T6 in the order of bodies", d.row(i, 1), body);
        E.due("T6 then of topics", d.row(i, 2), topic);
        E.due("T6 no kind, which is taken for 0", d.row(i, 3), 0);
        i++;
      }
    }
    E.due("P34 beyond the last", d.row(40, 0), -1);
    WrongsDesk far = Expect.desk(5);
    Expect.law(far, 5, 0, "owe 1 0");
    far.matter(0, 5, 9, 0, 0);
    far.ask(0);
    far.find(0, 0);
    far.watch(0, 1, 0);
    int[][] due = {{0, 0, 0}, {5, 0, 0}, {0, 9, 0}, {5, 9, 0}, {0, 0, 6}, {5, 0, 6}, {0, 9, 6}, {5, 9, 6}};
    for (int columns = 0; columns < 8; columns++) {
      E.due("P33 one row", far.report(columns), 1);
      for (int what = 1; what < 4; what++) {
        E.due("T6 columns " + columns + ", " + what, far.row(0, what), due[columns][what - 1]);
      }
    }
  }

  private static void asItWas() {
    WrongsDesk d = told(new int[] {0, 0}, new int[] {1, 0});
    d.report(2);
    d.matter(0, 0, 0, 0, 0);
    d.matter(0, 0, 1, 0, 0);
    Expect.law(d, -1, 0, "few 9");
    d.ask(0);
    E.due("P33 refused", d.report(8), -2);
    E.due("P34 as it was then", d.row(0, 0), 2);
    E.due("P34 as it was then", d.row(1, 0), -1);
    E.due("P33 the latest", d.report(4), 2);
    E.due("P34 the latest", d.row(0, 0), -3);
    E.due("P34 the latest", d.row(1, 0), -3);
    E.due("P33 fewer rows than before", d.report(0), 1);
    E.due("P34 none left of it", d.row(1, 0), -1);
  }

  private static WrongsDesk desk(int matters) {
    WrongsDesk d = Expect.desk(5);
    for (int m = 0; m < matters; m++) {
      d.matter(0, 0, 0, 0, 0);
    }
    return d;
  }

  private static void grades() {
    WrongsDesk d = desk(40);
    int many = 0;
    for (int hand = 0; hand < 6; hand++) {
      for (int m = 0; m < 40; m += 13) {
        many++;
        E.due("P35 a reading more", d.grade(hand, m, 0), many);
        E.due("P35 the same one anew", d.grade(hand, m, 9), many);
      }
    }
    E.due("P45 readings", d.count(8), 24);
    E.due("P35 all hands, all matters", d.grade(5, 38, 0), 25);
  }

  private static void habits() {
    WrongsDesk d = desk(3);
    d.grade(5, 0, 0);
    E.due("P36 read by it alone", d.habit(5, 0), NO);
    E.due("P36 not read by it", d.habit(0, 1), NO);
    d.grade(0, 0, 9);
    E.due("T7 the least less the greatest, above", d.habit(5, 0), -9);
    E.due("T7 the least less the greatest, below", d.habit(5, 1), 1);
    E.due("T7 the greatest less the least, above", d.habit(0, 0), 9);
    E.due("T7 the greatest less the least, below", d.habit(0, 1), 1);
    d.grade(0, 0, 0);
    E.due("T7 the latest counts: 0, above", d.habit(5, 0), 0);
    E.due("T7 0, below", d.habit(5, 1), 1);
    d.grade(3, 1, 7);
    d.grade(5, 2, 7);
    E.due("T7 others that each read alone", d.habit(5, 0), 0);
    d.grade(3, 0, 1);
    E.due("T7 less the mean of 0 and 1, above", d.habit(5, 0), -1);
    E.due("T7 less the mean of 0 and 1, below", d.habit(5, 1), 2);
    d.grade(1, 0, 2);
    d.grade(2, 0, 4);
    d.grade(4, 0, 9);
    E.due("T7 less the mean of five, above", d.habit(5, 0), -16);
    E.due("T7 less the mean of five, below", d.habit(5, 1), 5);
    d.grade(4, 2, 3);
    E.due("T7 the mean of two matters, above", d.habit(5, 0), 2);
    E.due("T7 the mean of two matters, below", d.habit(5, 1), 5);
  }

  private static void agreed() {
    for (int one = 0; one < 10; one++) {
      for (int other = 0; other < 10; other++) {
        WrongsDesk d = desk(1);
        d.grade(0, 0, one);
        E.due("T7 read by one alone", d.agreed(0, 5), 0);
        d.grade(5, 0, other);
        E.due("T7 agreed on " + one + " and " + other, d.agreed(0, 5), Math.abs(one - other) <= 1 ? 1 : 0);
      }
    }
    WrongsDesk d = desk(2);
    d.grade(0, 0, 0);
    d.grade(1, 1, 0);
    E.due("T7 each another matter", d.agreed(0, 1), 0);
    d.grade(1, 0, 9);
    E.due("T7 apart", d.agreed(0, 1), 0);
    d.grade(1, 0, 1);
    E.due("T7 the latest counts", d.agreed(0, 1), 1);
    E.due("P37 none", d.agreed(6, 0), -1);
    E.due("P37 none", d.agreed(0, 6), -1);
    E.due("P37 none", d.agreed(-1, 0), -1);
    E.due("P37 one", d.agreed(0, 0), -2);
  }

  // weeks

  private static void missed() {
    WrongsDesk d = desk(1);
    // day 5 is off: the first working day behind it is 7
    int[][] told = {{1, 6, 1, 1}, {1, 7, 0, 0}, {1, 8, 0, 0}, {5, 10, 1, 1}, {5, 11, 0, 0}, {6, 13, 1, 1}, {6, 14, 0, 0},
        {9, 0, 1, 17}, {9, 17, 0, 0}, {9, 16, 1, 1}};
    for (int[] t : told) {
      d.plan(0, t[0], t[1]);
      E.due("T8 missed with work " + t[0] + " by " + t[1], d.week(0), t[2]);
      E.due("T8 over with work " + t[0] + " by " + t[1], d.week(1), t[3]);
      d.planless();
    }
    d.feast(7);
    d.plan(0, 1, 7);
    E.due("T8 behind a feast", d.week(0), 1);
    E.due("T8 behind a feast", d.week(1), 1);
    WrongsDesk late = Expect.desk(9999);
    late.matter(0, 0, 0, 0, 0);
    late.matter(0, 0, 0, 0, 0);
    late.plan(0, 2, 9999);
    late.plan(1, 9, 0);
    E.due("T8 beyond 9999", late.week(0), 2);
    // 10003 and 9999 + 15, or 9999 + 13 and 9999 + 15
    E.due("T8 beyond 9999: over", late.week(1), 4 + 10014);
  }

  private static void over() {
    WrongsDesk d = Expect.desk(7);
    for (int m = 0; m < 3; m++) {
      d.matter(0, 0, 0, 0, 0);
    }
    // one is missed whatever is done; least over decides, not the place
    d.plan(0, 3, 9);
    d.plan(1, 1, 8);
    E.due("T8 0 ahead: 10 and 11; 1 ahead: 8 and 11", d.week(0), 1);
    E.due("T8 over", d.week(1), 2);
    E.due("T8 the first", d.week(10), 1);
    E.due("T8 the second", d.week(11), 0);
    d.planless();
    // fewer missed go ahead of less over
    d.plan(0, 9, 17);
    d.plan(1, 1, 18);
    d.plan(2, 1, 18);
    E.due("T8 0 last: missed once, by 5", d.week(0), 1);
    E.due("T8 over", d.week(1), 5);
    E.due("T8 of two ways the lesser place first", d.week(10), 1);
    E.due("T8 of two ways the lesser place first", d.week(11), 2);
    E.due("T8 the last", d.week(12), 0);
  }

  /** A short week behind a long one: nothing of the long one is left. */
  private static void weekAnew() {
    WrongsDesk d = Expect.desk(7);
    for (int m = 0; m < 4; m++) {
      d.matter(0, 0, 0, 0, 0);
      d.plan(m, 9, 0);
    }
    E.due("T8 all are missed", d.week(0), 4);
    E.due("P39 planless", d.planless(), 4);
    E.due("P40 none left", d.week(0), 0);
    E.due("P40 none left", d.week(1), 0);
    E.due("P40 none left", d.week(10), -1);
    d.plan(2, 1, 8);
    E.due("T8 in time", d.week(0), 0);
    E.due("T8 in time", d.week(1), 0);
    E.due("T8 the one", d.week(10), 2);
    E.due("T8 no second", d.week(11), -1);
    d.plan(1, 1, 8);
    E.due("T8 one missed", d.week(0), 1);
    E.due("T8 by a day", d.week(1), 1);
    E.due("T8 of two ways the lesser place first", d.week(10), 2);
  }

  /** Seven: all in time in one order alone, which is that of their places, or the one from the last place on. */
  private static void sevenWays() {
    WrongsDesk d = Expect.desk(0);
    for (int m = 0; m < 8; m++) {
      d.matter(0, 0, 0, 0, 0);
    }
    for (int m = 0; m < 7; m++) {
      d.plan(m, m + 1, d.working(0, sum(m + 1)));
    }
    for (int i = 0; i < 7; i++) {
      E.due("T8 the order by days, from the first place on " + i, d.week(10 + i), i);
    }
    E.due("T8 none is missed", d.week(0), 0);
    E.due("P40 no eighth", d.week(17), -1);
    d.planless();
    for (int m = 6; m >= 0; m--) {
      d.plan(m, m + 1, d.working(0, sum(m + 1)));
    }
    for (int i = 0; i < 7; i++) {
      E.due("T8 the order by days, from the last place on " + i, d.week(10 + i), i);
    }
    E.due("T8 none is missed", d.week(0), 0);
    E.due("P38 full", d.plan(7, 1, 1), -4);
  }

  private static int sum(int n) {
    return n * (n + 1) / 2;
  }

  private static void inTheWeek() {
    WrongsDesk d = desk(7);
    for (int m = 0; m < 7; m++) {
      E.due("P38 in it", d.plan(m, 1, 0), m + 1);
      for (int in = 0; in <= m; in++) {
        E.due("P38 it is in it", d.plan(in, 2, 1), -3);
      }
    }
    E.due("P39 planless", d.planless(), 7);
    E.due("P38 not in it any more", d.plan(6, 1, 0), 1);
  }

  private static void orders() {
    WrongsDesk d = Expect.desk(7);
    for (int m = 0; m < 3; m++) {
      d.matter(0, 0, 0, 0, 0);
    }
    d.plan(2, 1, 8);
    d.plan(0, 2, 10);
    d.plan(1, 3, 14);
    // done by place behind 7: 8, 10, 15; the third by one
    Scene.row(d, 0, 0, 0, 1, 2);
    E.due("P41 as many as the week: done on the day is not missed", d.judge(0), 1);
    Scene.row(d, 0, 0, 0, 2, 1);
    E.due("P41 8, 11, 15", d.judge(0), 1);
    Scene.row(d, 0, 0, 2, 1, 0);
    E.due("P41 10, 14, 15", d.judge(0), 2);
    Scene.row(d, 0, 0, 0, 1, 2, 0, -1, 99);
    E.due("P41 what it has beyond", d.judge(0), 1);
    int[][] faulty = {{0, 0, 1}, {0, 1, 0}, {0, 1, 1}, {1, 0, 1}, {2, 2, 0}, {2, 0, 2}, {1, 2, 2}, {0, 1, 3}, {3, 1, 2},
        {0, -1, 2}, {-1, 1, 2}, {0, 1, 127}, {0, 1, -128}, {0, 1, 32}, {0, 33, 2}};
    for (int[] f : faulty) {
      Scene.row(d, 0, 0, f[0], f[1], f[2]);
      E.due("P41 not each place once: " + f[0] + " " + f[1] + " " + f[2], d.judge(0), -2);
    }
    Scene.row(d, 0, 0, 0, 1);
    E.due("P41 one too few", d.judge(0), -13);
    Scene.row(d, 0, 0, 9, 9);
    E.due("P41 too few, ahead of no places", d.judge(0), -13);
    d.planless();
    d.plan(0, 1, 0);
    d.plan(1, 1, 0);
    Scene.row(d, 0, 0, 1, 0, 2);
    E.due("P41 a shorter week", d.judge(0), 2);
    Scene.row(d, 0, 0, 2, 0, 1);
    E.due("P41 a place that the week has no more", d.judge(0), -2);
  }

  // acts, tapes

  private static void wrapping() {
    WrongsDesk d = desk(2);
    int max = Integer.MAX_VALUE;
    int min = Integer.MIN_VALUE;
    E.due("T9 waits, at the most", d.act(0, 0, max), max);
    E.due("T9 waits, beyond the most", d.act(1, 0, max), min);
    E.due("T9 binds, beyond the most", d.act(0, 1, max), -2);
    E.due("T9 binds, at the least", d.act(0, 1, min), 0);
    E.due("T9 shows, beyond the most", d.act(1, 2, max), 0);
    Expect.law(d, 0, 0, "owe 1 0");
    d.matter(0, 0, 3, 0, 0);
    d.matter(0, 0, 3, 0, 0);
    d.join(2, 0);
    E.due("T9 JOINED waits, below the least", d.act(2, 0, min), min);
    E.due("T9 JOINED waits, below the least", d.act(2, 0, min + 1), min + 1);
    E.due("T9 JOINED binds, beyond the most", d.act(2, 1, max), -2);
    d.ask(3);
    d.find(3, 0);
    E.due("T9 FOUND binds: x 2 and x 1", d.act(3, 1, max), (max + 3) * 2 + (max + 4));
    E.due("T9 FOUND shows, below the least", d.act(3, 2, min), (((min + 3) * 2 + (min + 4)) ^ 3) - 5);
  }

  private static void cut() {
    long[][] told = {{127, 127, 127, 127}, {128, -128, 128, 128}, {-128, -128, -128, -128}, {-129, 127, -129, -129},
        {255, -1, 255, 255}, {256, 0, 256, 256}, {32767, -1, 32767, 32767}, {32768, 0, -32768, 32768},
        {-32768, 0, -32768, -32768}, {-32769, -1, 32767, -32769}, {65535, -1, -1, 65535}, {65536, 0, 0, 65536},
        {Integer.MAX_VALUE, -1, -1, Integer.MAX_VALUE}, {1L << 31, 0, 0, Integer.MIN_VALUE},
        {Integer.MIN_VALUE, 0, 0, Integer.MIN_VALUE}, {-(1L << 31) - 1, -1, -1, Integer.MAX_VALUE}, {1L << 32, 0, 0, 0},
        {0x7fffffffffffffffL, -1, -1, -1}, {0x8000000000000001L, 1, 1, 1}};
    WrongsDesk d = new WrongsDesk();
    for (int sort = 0; sort < 4; sort++) {
      d.tape(sort, sort, 1);
      for (long[] t : told) {
        E.due("P47 item", d.item(sort, 0, t[0]), 1);
        E.due("P47 sort " + sort + ", " + t[0], d.read(sort, 0), sort == 3 ? t[0] : t[1 + sort]);
      }
    }
    d.item(3, 0, Long.MIN_VALUE);
    E.due("P48 the least long", d.read(3, 0), Long.MIN_VALUE);
  }

  private static void anew() {
    WrongsDesk d = new WrongsDesk();
    for (int sort = 0; sort < 4; sort++) {
      d.tape(0, 3, 80);
      for (int i = 0; i < 80; i += 79) {
        d.item(0, i, -1);
      }
      E.due("P46 the most", d.tape(0, sort, 80), 1);
      E.due("P46 all 0, the first", d.read(0, 0), 0);
      E.due("P46 all 0, the last", d.read(0, 79), 0);
      E.due("P47 no place", d.item(0, 80, 1), -13);
      d.item(0, 0, 5);
      d.item(0, 1, 5);
      d.tape(0, sort, 1);
      E.due("P46 a shorter one, all 0", d.read(0, 0), 0);
      E.due("P46 a shorter one", d.read(0, 1), NO);
      E.due("P47 a shorter one", d.item(0, 1, 1), -13);
      d.tape(0, sort, 2);
      E.due("P46 a longer one, all 0", d.read(0, 1), 0);
    }
  }

  private static void rowIs(WrongsDesk d, int tape, long... due) {
    for (int i = 0; i < due.length; i++) {
      E.due("P49 item " + i + " of " + tape, d.read(tape, i), due[i]);
    }
    E.due("P49 no more of " + tape, d.read(tape, due.length), NO);
  }

  private static void shifts() {
    for (int sort = 0; sort < 4; sort++) {
      WrongsDesk d = new WrongsDesk();
      Scene.row(d, 0, sort, 1, 2, 3, 4);
      E.due("P49 on, within one", d.shift(0, 0, 0, 1, 3), 3);
      rowIs(d, 0, 1, 1, 2, 3);
      E.due("P49 back, within one", d.shift(0, 1, 0, 0, 3), 3);
      rowIs(d, 0, 1, 2, 3, 3);
      E.due("P49 onto itself", d.shift(0, 0, 0, 0, 4), 4);
      rowIs(d, 0, 1, 2, 3, 3);
      Scene.row(d, 1, sort, 7, 8);
      E.due("P49 none", d.shift(0, 0, 1, 0, 0), 0);
      E.due("P49 none, at both ends", d.shift(0, 4, 1, 2, 0), 0);
      rowIs(d, 1, 7, 8);
      E.due("P49 one too many for it", d.shift(0, 0, 1, 0, 3), -13);
      E.due("P49 one too many of it", d.shift(1, 0, 0, 0, 3), -13);
      rowIs(d, 1, 7, 8);
      rowIs(d, 0, 1, 2, 3, 3);
      E.due("P49 as many as fit", d.shift(0, 2, 1, 0, 2), 2);
      rowIs(d, 1, 3, 3);
      rowIs(d, 0, 1, 2, 3, 3);
      d.item(1, 0, 9);
      rowIs(d, 0, 1, 2, 3, 3);
    }
  }
}
