/** The edges of harm, like ones and causes: whole days and years, at most, as sets, of several the least. */
public final class HarmEdgesTest {
  private static final Expect E = new Expect("HarmEdgesTest");

  public static void main(String[] args) {
    wholeDays();
    eachAlone();
    aheadOfDue();
    atMost();
    wholeYears();
    cutOnce();
    exact();
    officeThen();
    alike();
    wrongSets();
    fewerOwed();
    bodiesAndTopics();
    unlike();
    onlyFound();
    notDueYet();
    causes();
    oneOwed();
    fewest();
    fewestOverTime();
    allNeeded();
    E.close();
  }

  /** A matter of body 0 that happened on a day, on a desk of another day. */
  private static WrongsDesk one(int today, String owes, String office, int day, int loss) {
    WrongsDesk d = Expect.desk(today);
    Expect.law(d, 0, 0, owes);
    Expect.law(d, -1, 0, office);
    d.matter(0, 0, 0, day, loss);
    return d;
  }

  private static void wholeDays() {
    int[] due = {0, 0, 0, 7, 7, 7, 14, 14, 14, 21};
    for (int done = 0; done < due.length; done++) {
      WrongsDesk d = one(20, "owe 1 0", "scale 7 3", 0, 9999);
      d.file(0, 1, done, 0);
      E.due("T4 done " + done + " days behind due", d.good(0, 20), due[done]);
    }
    WrongsDesk d = one(20, "owe 1 0", "scale 7 1", 0, 9999);
    d.file(0, 1, 1, 0);
    E.due("T4 m is 1", d.good(0, 20), 7);
    d = one(20, "owe 1 0", "cap 100", 0, 9999);
    d.file(0, 1, 9, 0);
    E.due("T4 without a scale", d.good(0, 20), 0);
    d = one(20, "owe 1 0", "scale 0 1", 0, 9999);
    d.file(0, 1, 9, 0);
    E.due("T4 n is 0", d.good(0, 20), 0);
  }

  private static void eachAlone() {
    WrongsDesk d = one(20, "owe 1 0;owe 2 0;owe 3 0", "scale 7 3", 0, 100);
    d.file(0, 1, 2, 0);
    d.file(0, 2, 2, 0);
    d.file(0, 3, 0, 0);
    E.due("T4 twice two of three days", d.good(0, 20), 0);
    d = one(20, "owe 1 0;owe 2 0;owe 3 0", "scale 7 3", 0, 100);
    d.file(0, 1, 3, 0);
    d.file(0, 2, 7, 0);
    d.file(0, 3, 0, 0);
    E.due("T4 each of two that are late", d.good(0, 20), 21);
    d.papers(0, 0, 0, 1);
    E.due("T4 late, though torn", d.good(0, 20), 21);
    d = one(20, "owe 1 0;owe 2 0;owe 3 9", "scale 7 3;cap 300", 0, 100);
    E.due("T4 not due yet adds nothing", d.good(0, 0), 0);
    d.file(0, 1, 3, 0);
    E.due("T4 one late, one lacks: at most the loss", d.good(0, 20), 100);
    d.papers(0, 0, 0, 1);
    E.due("T4 one that is open adds nothing", d.good(0, 20), 7);
  }

  private static void aheadOfDue() {
    WrongsDesk d = one(20, "owe 1 5;owe 2 5;owe 3 5", "scale 7 1", 7, 9999);
    d.file(0, 1, 17, 0);
    d.file(0, 3, 14, 0);
    E.due("T4 two lack nothing yet: on due", d.good(0, 14), 0);
    d.file(0, 2, 7, 0);
    E.due("T4 from due on, and one done ahead of it takes nothing away", d.good(0, 20), 21);
    d.file(0, 1, 8, 0);
    E.due("T4 all done ahead of due", d.good(0, 20), 0);
  }

  private static void atMost() {
    int[][] told = {{99, 99}, {100, 100}, {101, 100}, {0, 0}, {1, 1}, {9999, 100}};
    for (int[] t : told) {
      WrongsDesk d = one(20, "owe 1 0", "cap " + t[0], 0, 100);
      E.due("T4 a loss of 100, cap " + t[0], d.good(0, 20), t[1]);
    }
    int[] losses = {0, 13, 14, 15};
    for (int loss : losses) {
      WrongsDesk d = one(20, "owe 1 0", "scale 7 3", 0, loss);
      d.file(0, 1, 6, 0);
      E.due("T4 fourteen for days, at most a loss of " + loss, d.good(0, 20), Math.min(14, loss));
    }
    WrongsDesk d = one(1, "owe 1 0", "rate 100;cap 10", 0, 50);
    E.due("T4 rate of what cap leaves", d.good(0, 365), 11);
    d = one(1, "owe 1 0", "rate 1000", 0, 50);
    E.due("T4 with rate it may be more than the loss", d.good(0, 730), 150);
    d = one(1, "owe 1 0", "rate 1000;cap 60", 0, 50);
    E.due("T4 and more than cap", d.good(0, 730), 150);
  }

  private static void wholeYears() {
    int[][] told = {{101, 50}, {464, 50}, {465, 55}, {829, 55}, {830, 60}, {1194, 60}, {1195, 65}, {9999, 50 + 5 * 27}};
    for (int[] t : told) {
      WrongsDesk d = one(100, "owe 1 0", "rate 100", 100, 50);
      E.due("T4 from day 100 to " + t[0], d.good(0, t[0]), t[1]);
    }
    WrongsDesk d = one(400, "owe 1 0", "rate 100", 145, 50);
    E.due("T4 to the last day", d.good(0, 9999), 50 + 5 * 26);
    d = one(400, "owe 1 0", "rate 100", 144, 50);
    E.due("T4 to the last day, a year more", d.good(0, 9999), 50 + 5 * 27);
  }

  private static void cutOnce() {
    WrongsDesk d = one(1, "owe 1 0", "rate 30", 0, 50);
    E.due("T4 51.5", d.good(0, 365), 51);
    E.due("T4 53", d.good(0, 730), 53);
    E.due("T4 54.5", d.good(0, 1095), 54);
    d = one(1, "owe 1 0", "rate 1", 0, 999);
    E.due("T4 999.999", d.good(0, 365), 999);
    E.due("T4 1000.998", d.good(0, 730), 1000);
    d = one(1, "owe 1 0", "rate 1", 0, 1000);
    E.due("T4 1001", d.good(0, 365), 1001);
  }

  private static void exact() {
    WrongsDesk d = one(1, "owe 1 0", "rate 9999", 0, 9999);
    E.due("T4 the most", d.good(0, 9999), 9999 + 2699460);
    String ten = "owe 1 0;owe 1 0;owe 1 0;owe 1 0;owe 1 0;owe 1 0;owe 1 0;owe 1 0;owe 1 0;owe 1 0";
    d = one(9999, ten, "scale 9999 1", 0, 9999);
    d.file(0, 1, 9999, 0);
    E.due("T4 ten, each the latest that can be", d.good(0, 9999), 9999);
  }

  /** scale, cap and rate are those of the office's law on the day that is asked. */
  private static void officeThen() {
    WrongsDesk d = one(20, "owe 1 0;rate 99;cap 1;scale 99 1", "scale 2 1", 0, 400);
    Expect.law(d, -1, 10, "scale 3 1;cap 11");
    Expect.law(d, -1, 400, "scale 3 1;rate 500");
    d.file(0, 1, 4, 0);
    E.due("T4 not known yet", d.good(0, 19), 11);
    E.due("T4 ahead", d.good(0, 9), 400);
    E.due("T4 known", d.good(0, 20), 11);
    E.due("T4 the day ahead of the next", d.good(0, 399), 11);
    E.due("T4 on its first day", d.good(0, 400), 18);
    WrongsDesk e = Expect.desk(4);
    Expect.law(e, 0, 0, "owe 1 0");
    Expect.law(e, -1, 0, "scale 2 1");
    Expect.law(e, -1, 6, "scale 3 1");
    e.matter(0, 0, 0, 0, 400);
    e.file(0, 1, 4, 0);
    E.due("T4 the day ahead of the next", e.good(0, 5), 8);
    E.due("T4 on its first day", e.good(0, 6), 12);
  }

  /** Matters of body 0, topic 1, that owes 1 and 2; found on day 21 with awards. */
  private static WrongsDesk found(int... awards) {
    WrongsDesk d = Expect.desk(21);
    Expect.law(d, 0, 0, "owe 1 0;owe 2 0;owe 3 0 if t9");
    for (int m = 0; m < awards.length; m++) {
      d.matter(0, 0, 1, 0, 10);
      d.ask(m);
      d.find(m, awards[m]);
    }
    return d;
  }

  private static void alike() {
    WrongsDesk d = found(5, 5);
    E.due("T4 both lack both", d.alike(0, 1), 1);
    d.file(0, 1, 0, 0);
    d.file(0, 2, 3, 0);
    d.file(1, 2, 0, 0);
    E.due("T4 2 late, and 1 lacks", d.alike(0, 1), 0);
    d.file(1, 2, 0, 0);
    d.file(1, 1, 9, 0);
    E.due("T4 2 late, and 1 late", d.alike(0, 1), 0);
    d.file(1, 1, 0, 0);
    E.due("T4 2 late, and none", d.alike(0, 1), 0);
    d.file(0, 2, 0, 0);
    E.due("T4 none, and none", d.alike(0, 1), 1);
    d = found(5, 5);
    d.file(0, 1, 5, 0);
    d.file(0, 2, 5, 0);
    d.file(1, 1, 9, 0);
    E.due("T4 both late, and one late, one lacks", d.alike(0, 1), 0);
    d.file(1, 2, 1, 0);
    E.due("T4 both late, by other days", d.alike(0, 1), 1);
    d.pass(1);
    d.file(1, 2, 0, 0);
    E.due("T4 as known today", d.alike(0, 1), 0);
  }

  /** Each sort with each wrong is alike to itself alone. */
  private static void wrongSets() {
    for (int a = 0; a < 18; a++) {
      for (int b = 0; b < 18; b++) {
        WrongsDesk d = Expect.desk(9);
        Expect.law(d, 4, 0, "owe 1 0;owe 2 0;owe 3 0;owe 4 0;owe 5 0;owe 6 0;owe 7 0;owe 8 0;owe 9 0");
        oneWrong(d, 0, a);
        oneWrong(d, 1, b);
        String sorts = "T4 sort " + (a % 9 + 1) + " and sort " + (b % 9 + 1);
        E.due(sorts, d.alike(0, 1), a == b ? 1 : 0);
        E.due(sorts + ", unlike", d.unlike(0), a == b ? 1 : 0);
      }
    }
  }

  /** A found matter: below 9 the sort that lacks, less 1; from 9 on the one that is late, less 10. */
  private static void oneWrong(WrongsDesk d, int number, int wrong) {
    d.matter(0, 4, 1, 0, 10);
    for (int sort = 1; sort <= 9; sort++) {
      if (sort != wrong % 9 + 1) {
        d.file(number, sort, 0, 0);
      } else if (wrong >= 9) {
        d.file(number, sort, 1, 0);
      }
    }
    d.ask(number);
    E.due("P11 just one is wrong", d.find(number, number), 1);
  }

  /** The lesser one owes more than the greater one, as an act on its file makes it: nothing of that counts for the other. */
  private static void fewerOwed() {
    WrongsDesk d = Expect.desk(9);
    Expect.law(d, 0, 0, "owe 1 0;owe 2 0 if a5");
    for (int m = 0; m < 3; m++) {
      d.matter(0, 0, 0, 0, 10);
      if (m != 1) {
        d.file(m, 5, 0, 0);
      }
      d.ask(m);
      E.due("P11 find", d.find(m, m), m == 1 ? 1 : 2);
    }
    E.due("T4 two lack, and one", d.alike(0, 1), 0);
    E.due("T4 one lacks, and two", d.alike(1, 2), 0);
    E.due("T4 two lack, and two", d.alike(0, 2), 1);
    E.due("P29 twos", d.unlike(0), 1);
    E.due("P29 the greater", d.unlike(2), 2);
  }

  private static void bodiesAndTopics() {
    WrongsDesk d = Expect.desk(9);
    int[][] told = {{3, 4}, {3, 4}, {5, 4}, {0, 4}, {3, 9}, {3, 0}};
    Expect.law(d, 0, 0, "owe 1 0");
    Expect.law(d, 3, 0, "owe 1 0");
    Expect.law(d, 5, 0, "owe 1 0");
    for (int m = 0; m < told.length; m++) {
      d.matter(0, told[m][0], told[m][1], 0, 0);
      d.ask(m);
      d.find(m, m);
    }
    for (int a = 0; a < told.length; a++) {
      for (int b = 0; b < told.length; b++) {
        if (a != b) {
          E.due("T4 of one body and topic: " + a + " and " + b, d.alike(a, b), a + b == 1 ? 1 : 0);
        }
      }
    }
    E.due("P29 just these two", d.unlike(0), 1);
    E.due("P29 the lesser", d.unlike(1), 0);
    E.due("P29 the greater", d.unlike(2), 1);
  }

  private static void unlike() {
    WrongsDesk d = found(5, 6);
    E.due("P29 one two", d.unlike(0), 1);
    E.due("P29 the lesser", d.unlike(1), 0);
    E.due("P29 the greater", d.unlike(2), 1);
    d = found(7, 7);
    E.due("T4 alike awards", d.unlike(0), 0);
    E.due("P29 no lesser", d.unlike(1), -1);
    E.due("P29 no greater", d.unlike(2), -1);
    d = found(0, 99999);
    E.due("T4 the least and the greatest award", d.unlike(0), 1);
    d = found(7, 5, 5);
    E.due("P29 two of them have the same award, which is not the first one's", d.unlike(0), 2);
    E.due("P29 the greater", d.unlike(2), 1);
    d = found(4, 4, 4, 5);
    E.due("P29 twos", d.unlike(0), 3);
    E.due("P29 the lesser", d.unlike(1), 0);
    E.due("P29 the greater", d.unlike(2), 3);
    d = found(4, 4, 5, 6);
    E.due("P29 twos", d.unlike(0), 5);
    E.due("P29 the lesser", d.unlike(1), 0);
    E.due("P29 the lesser of the greater", d.unlike(2), 2);
    d.watch(0, 1, 50);
    E.due("P29 a watched one counts", d.unlike(0), 5);
    d.file(0, 1, 0, 0);
    E.due("P29 it is like none any more", d.unlike(0), 3);
    E.due("P29 the lesser", d.unlike(1), 1);
    E.due("P29 the greater", d.unlike(2), 2);
  }

  /** One that is asked or settled is like none, though body, topic and what is wrong are the same. */
  private static void onlyFound() {
    WrongsDesk d = found(5);
    for (int m = 1; m < 4; m++) {
      d.matter(0, 0, 1, 0, 10);
    }
    d.ask(2);
    d.ask(3);
    d.settle(3);
    WrongsDesk last = Expect.desk(21);
    Expect.law(last, 0, 0, "owe 1 0");
    last.matter(0, 0, 1, 0, 10);
    last.matter(0, 0, 1, 0, 10);
    last.ask(0);
    last.ask(1);
    last.find(1, 5);
    E.due("P29 the lesser one is not found", last.unlike(0), 0);
    last.file(1, 1, 0, 0);
    E.due("P29 nor with nothing wrong", last.unlike(0), 0);
    last.file(0, 1, 0, 0);
    E.due("P29 nor with nothing wrong in both", last.unlike(0), 0);
    E.due("P28 alike", last.alike(1, 0), -3);
    E.due("P29 none", d.unlike(0), 0);
    d.file(0, 1, 0, 0);
    d.file(0, 2, 0, 0);
    E.due("P29 none, with nothing wrong", d.unlike(0), 0);
    E.due("P29 no lesser", d.unlike(1), -1);
    for (int m = 1; m < 4; m++) {
      E.due("P28 alike", d.alike(0, m), -3);
    }
  }

  /** What is due behind today is no wrong today: not for what is alike, nor for causes. */
  private static void notDueYet() {
    WrongsDesk d = Expect.desk(1);
    Expect.law(d, 0, 0, "owe 1 0;owe 2 9");
    for (int m = 0; m < 3; m++) {
      d.matter(0, 0, 0, 0, 0);
    }
    for (int m = 0; m < 2; m++) {
      d.ask(m);
      E.due("P11 one is wrong", d.find(m, m), 1);
    }
    d.file(0, 2, 0, 0);
    d.cause(0, 2, 0);
    int[][] due = {{1, 0, 0, 0}, {1, 0, 0, 0}, {0, 1, 1, 1}};
    int[] days = {1, 11, 12};
    for (int n = 0; n < days.length; n++) {
      if (n > 0) {
        d.pass(days[n] - days[n - 1]);
      }
      String today = " on " + days[n];
      E.due("P28 alike" + today, d.alike(0, 1), due[n][0]);
      E.due("P29 unlike" + today, d.unlike(0), due[n][0]);
      E.due("P31 found ones" + today, d.reaches(0, 0), due[n][1]);
      E.due("P31 others" + today, d.reaches(0, 1), due[n][2]);
      E.due("P32 fewest" + today, d.fewest(), due[n][3]);
    }
  }

  private static void causes() {
    WrongsDesk d = found(1, 1, 1, 1);
    d.matter(0, 1, 1, 0, 0);
    d.matter(0, 0, 1, 0, 0);
    d.file(0, 1, 3, 0);
    d.file(1, 1, 0, 0);
    d.file(1, 2, 0, 0);
    d.papers(2, 0, 0, 1);
    // 0: 1 late, 2 lacks; 1: nothing; 2: both open; 3: both lack; 4: of another body, owes nothing; 5: not found, lacks
    int[][] told = {{-1, 0, 0, 3, 1}, {0, 0, 0, 3, 1}, {1, 0, 0, 0, 0}, {-1, 0, 1, 1, 0}, {-1, 0, 2, 2, 1}, {-1, 0, 3, 1, 0},
        {0, 1, 0, 3, 1}, {0, 1, 1, 1, 0}, {0, 1, 2, 1, 1}, {0, 2, 1, 0, 0}, {0, 2, 2, 2, 1}, {5, 9, 3, 0, 0}};
    for (int n = 0; n < told.length; n++) {
      E.due("P30 cause", d.cause(told[n][0], told[n][1], told[n][2]), n);
      E.due("P31 found ones that cause " + n + " reaches", d.reaches(n, 0), told[n][3]);
      E.due("P31 others that cause " + n + " reaches", d.reaches(n, 1), told[n][4]);
    }
    d.watch(3, 1, 50);
    E.due("P31 under found", d.reaches(0, 0), 3);
    d.ask(5);
    d.settle(5);
    E.due("P31 a settled one is not found", d.reaches(0, 1), 1);
  }

  /** Just one of what is owed is wrong: the first, or the last. */
  private static void oneOwed() {
    for (int sort = 1; sort <= 3; sort++) {
      WrongsDesk d = Expect.desk(9);
      Expect.law(d, 0, 0, "owe 1 0;owe 2 0;owe 3 0");
      d.matter(0, 0, 0, 0, 0);
      for (int in = 1; in <= 3; in++) {
        if (in != sort) {
          d.file(0, in, 0, 0);
        }
      }
      d.cause(-1, sort, 2);
      d.cause(-1, sort % 3 + 1, 0);
      E.due("P31 the one that lacks", d.reaches(0, 1), 1);
      E.due("P31 none of another sort", d.reaches(1, 1), 0);
      d.ask(0);
      E.due("P11 one is wrong", d.find(0, 0), 1);
      E.due("P32 the cause of it", d.fewest(), 1);
    }
  }

  private static void fewest() {
    WrongsDesk d = found(1, 1);
    E.due("P32 no cause", d.fewest(), 0);
    d.cause(3, 0, 0);
    E.due("P32 none that reaches", d.fewest(), 0);
    d.cause(0, 2, 0);
    E.due("P32 one that reaches all", d.fewest(), 2);
    d.cause(0, 1, 0);
    E.due("P32 of two the least as bits", d.fewest(), 2);
    d.file(0, 2, 0, 0);
    E.due("P32 the other one", d.fewest(), 4);
    d.file(1, 1, 0, 0);
    E.due("P32 both", d.fewest(), 6);
    d.matter(0, 2, 0, 0, 0);
    d.cause(2, 0, 0);
    E.due("P32 matters that are not found do not count", d.fewest(), 6);
    d.cause(-1, 0, 0);
    E.due("P32 one instead of two", d.fewest(), 16);
    WrongsDesk first = found(1);
    first.cause(0, 1, 0);
    first.cause(0, 1, 0);
    E.due("P32 of two alike the first", first.fewest(), 1);
    WrongsDesk asked = found(1);
    Expect.law(asked, 1, 0, "owe 1 0");
    asked.matter(0, 1, 0, 0, 0);
    asked.ask(1);
    asked.cause(0, 0, 0);
    asked.cause(1, 0, 0);
    E.due("P32 one that is asked does not count", asked.fewest(), 1);
    asked.find(1, 0);
    E.due("P32 found, it does", asked.fewest(), 3);
    asked.watch(1, 1, 0);
    E.due("P32 watched, it does", asked.fewest(), 3);
  }

  private static void fewestOverTime() {
    WrongsDesk d = found(1);
    d.cause(0, 1, 0);
    d.cause(0, 2, 0);
    E.due("P32 the first", d.fewest(), 1);
    d.file(0, 1, 0, 0);
    E.due("P32 it reaches none any more", d.fewest(), 2);
    d.file(0, 2, 0, 0);
    E.due("P32 nothing is wrong any more", d.fewest(), 0);
  }

  /** Twelve causes and twelve matters, each reached by one cause alone. */
  private static void allNeeded() {
    WrongsDesk d = Expect.desk(21);
    for (int body = 0; body < 6; body++) {
      Expect.law(d, body, 0, "owe 1 0;owe 2 0");
    }
    for (int m = 0; m < 12; m++) {
      d.matter(0, m % 6, 0, 0, 0);
      d.file(m, m < 6 ? 1 : 2, 0, 0);
      d.ask(m);
      d.find(m, 0);
      d.cause(m % 6, m < 6 ? 2 : 1, 2);
    }
    E.due("P32 all twelve", d.fewest(), 4095);
    d.file(0, 2, 0, 0);
    E.due("P32 all but the first", d.fewest(), 4094);
    d.file(11, 1, 0, 0);
    E.due("P32 all but the first and the last", d.fewest(), 2046);
  }
}
