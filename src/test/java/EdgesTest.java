/**
 * The edges that the document's sentences name of days, files, kinds and promises: on a day and behind it, by then, at
 * most, of several the last. The first letters of a line tell the term (T) or the promise (P).
 */
public final class EdgesTest {
  private static final Expect E = new Expect("EdgesTest");

  public static void main(String[] args) {
    passing();
    offDays();
    workingDays();
    feastsInARow();
    asKnown();
    ofSeveral();
    torn();
    papersEnd();
    papersFaulty();
    promises();
    overdue();
    reachEdges();
    lawOfTheDay();
    today();
    told();
    joins();
    E.close();
  }

  // days

  private static void passing() {
    WrongsDesk d = new WrongsDesk();
    E.due("P2 the least", d.pass(1), 1);
    E.due("P2 the most", d.pass(400), 401);
    for (int n = 2; n <= 23; n++) {
      d.pass(400);
    }
    E.due("P2 beyond 9999 by one", d.pass(399 + 400), -2);
    E.due("P2 on", d.pass(400), 9601);
    E.due("P2 beyond 9999 by one", d.pass(399), -2);
    E.due("P2 beyond 9999 by two", d.pass(400), -2);
    E.due("P2 which changes nothing", d.count(0), 9601);
    E.due("P2 to 9999", d.pass(398), 9999);
    E.due("P2 beyond 9999", d.pass(1), -2);
    E.due("P2 beyond 9999", d.pass(400), -2);
    E.due("P2 which changes nothing", d.count(0), 9999);
    d.person(0);
    E.due("P7 on the last day", d.matter(0, 0, 0, 9999, 0), 0);
    E.due("P7 behind it", d.matter(0, 0, 0, 10000, 0), -2);
    E.due("P18 on the last day", d.file(0, 1, 9999, 0), 1);
    E.due("P15 on the last day", d.reach(0, 9999), 1);
    E.due("P15 ahead", d.reach(0, 9998), -2);
    E.due("P10 beyond 9999", d.ask(0), 9999 + 42);
    E.due("P16 not overdue", d.end(0, 1), 0);
  }

  private static void offDays() {
    WrongsDesk d = new WrongsDesk();
    for (int day = 0; day < 14; day++) {
      boolean isOff = day % 7 == 5 || day % 7 == 6;
      E.due("T1 feast on " + day, new WrongsDesk().feast(day), isOff ? -3 : 1);
    }
    E.due("T1 the last weekend", d.feast(9994), -3);
    E.due("T1 the last weekend", d.feast(9995), -3);
    E.due("T1 ahead of it", d.feast(9993), 1);
    E.due("T1 behind it", d.feast(9996), 2);
    E.due("T1 it is one already", d.feast(9996), -3);
    E.due("T1 which changes nothing", d.count(1), 2);
    int[] noDays = {-1, -2, -7, 10000, 10001, 10002, 10003};
    for (int day : noDays) {
      E.due("P3 no day, though it were off or not: " + day, d.feast(day), -2);
    }
  }

  private static void workingDays() {
    WrongsDesk d = new WrongsDesk();
    int[] next = {1, 2, 3, 4, 7, 7, 7, 8};
    for (int day = 0; day < next.length; day++) {
      E.due("P4 none behind " + day, d.working(day, 0), day);
      E.due("P4 the first behind " + day, d.working(day, 1), next[day]);
      E.due("P4 the fifth behind " + day, d.working(day, 5), day % 7 < 5 ? day + 7 : 11);
    }
    d.feast(2);
    E.due("T1 a feast just behind the one that is asked for", d.working(0, 1), 1);
    E.due("T1 a feast on the one that is asked for", d.working(0, 2), 3);
    E.due("T1 a feast ahead of the one that is asked for", d.working(0, 3), 4);
    E.due("T1 on a feast, none", d.working(2, 0), 2);
    E.due("T1 behind a feast", d.working(2, 1), 3);
    d.feast(7);
    E.due("T1 a weekend and a feast behind it", d.working(4, 1), 8);
    E.due("T1 from a weekend over a feast", d.working(5, 1), 8);
    E.due("T1 from a weekend over a feast", d.working(6, 2), 9);
    d.pass(20);
    E.due("T1 days that went by", d.working(0, 2), 3);
    E.due("P3 on a day that went by", d.feast(3), 3);
    E.due("T1 days that went by", d.working(0, 2), 4);
    WrongsDesk late = new WrongsDesk();
    late.feast(9999);
    late.feast(9998);
    E.due("P4 two feasts to the last day", late.working(9997, 1), 10000);
    E.due("P4 no feast beyond 9999", late.working(9999, 1), 10000);
    E.due("P4 weekends beyond 9999", late.working(9999, 2), 10003);
    E.due("P4 the most", late.working(9999, 400), 9999 + 560);
    E.due("P4 the most", late.working(9997, 400), 9997 + 562);
  }

  private static void feastsInARow() {
    WrongsDesk d = new WrongsDesk();
    int many = 0;
    for (int day = 1; many < 20; day++) {
      if (day % 7 < 5) {
        many++;
        E.due("P3 feast " + many, d.feast(day), many);
      }
    }
    E.due("T1 over twenty feasts, the first", d.working(0, 1), 29);
    E.due("T1 over twenty feasts, the fourth", d.working(0, 4), 32);
    E.due("T1 over twenty feasts, the fifth", d.working(0, 5), 35);
    E.due("T1 over the last of them", d.working(27, 1), 29);
    E.due("T1 from the last of them", d.working(28, 1), 29);
    E.due("T1 over ten of them", d.working(14, 1), 29);
  }

  // files

  private static void asKnown() {
    WrongsDesk d = Expect.desk(5);
    d.matter(0, 0, 0, 0, 0);
    d.matter(0, 0, 0, 0, 0);
    d.file(0, 1, 4, 10);
    d.file(0, 2, 1, 60);
    d.file(1, 1, 2, 70);
    d.pass(3);
    d.file(0, 1, 2, 20);
    d.file(0, 1, 8, 30);
    E.due("T2 the day ahead of the first, how many", d.filed(0, 1, 4, 3), 0);
    E.due("T2 the day ahead of the first", d.filed(0, 1, 4, 0), -100);
    E.due("T2 the day ahead of the first", d.filed(0, 1, 4, 1), -100);
    E.due("T2 the day ahead of the first", d.filed(0, 1, 4, 2), -100);
    int[] known = {5, 7, 8, 9999};
    int[][] due = {{4, 10, 4, 1}, {4, 10, 4, 1}, {8, 30, 2, 3}, {8, 30, 2, 3}};
    for (int k = 0; k < known.length; k++) {
      for (int what = 0; what < 4; what++) {
        E.due("T2 as known on " + known[k] + ", " + what, d.filed(0, 1, known[k], what), due[k][what]);
      }
    }
    E.due("T2 of another sort", d.filed(0, 2, 9999, 3), 1);
    E.due("T2 of another matter", d.filed(1, 1, 9999, 3), 1);
    E.due("T2 of another matter", d.filed(1, 1, 9999, 1), 70);
  }

  private static void ofSeveral() {
    WrongsDesk d = Expect.desk(9);
    d.matter(0, 0, 0, 0, 0);
    int[][] told = {{5, 1}, {7, 2}, {7, 3}, {6, 4}, {5, 5}};
    int[] words = {1, 2, 3, 3, 3};
    for (int i = 0; i < told.length; i++) {
      d.file(0, 1, told[i][0], told[i][1]);
      E.due("T2 the latest: done last, of several the last entered", d.filed(0, 1, 9, 1), words[i]);
      E.due("T2 its day", d.filed(0, 1, 9, 0), i == 0 ? 5 : 7);
      E.due("T2 the first", d.filed(0, 1, 9, 2), 5);
      E.due("T2 how many", d.filed(0, 1, 9, 3), i + 1);
    }
    d.file(0, 1, 0, 99);
    d.file(0, 1, 9, -99);
    E.due("T2 the first: done first", d.filed(0, 1, 9, 2), 0);
    E.due("T2 the latest", d.filed(0, 1, 9, 0), 9);
    E.due("T2 the latest", d.filed(0, 1, 9, 1), -99);
  }

  private static void torn() {
    WrongsDesk d = Expect.desk(5);
    Expect.law(d, 0, 0, "owe 1 0;owe 2 6");
    d.matter(0, 0, 0, 0, 0);
    d.matter(0, 0, 0, 0, 0);
    E.due("P20 not torn", d.patch(0), -3);
    d.papers(0, 0, 0, 1);
    E.due("T2 torn from today on", d.of(0, 9), 5);
    E.due("T2 not the other one's", d.of(1, 9), -1);
    E.due("T3 known the day ahead: it lacks", d.owed(0, 4, 0, 2), 2);
    E.due("T3 known on that day: open", d.owed(0, 5, 0, 2), 3);
    E.due("T3 known later: open", d.owed(0, 9999, 0, 2), 3);
    E.due("T3 not due yet, though torn", d.owed(0, 8, 1, 2), 0);
    E.due("T3 behind due, torn", d.owed(0, 9, 1, 2), 3);
    E.due("T3 the other one lacks", d.owed(1, 5, 0, 2), 2);
    d.pass(2);
    d.papers(0, 0, 0, 1);
    E.due("T2 it was torn already", d.of(0, 9), 5);
    E.due("P20 patch", d.patch(0), 1);
    E.due("P20 not torn any more", d.of(0, 9), -1);
    E.due("T3 it lacks", d.owed(0, 9999, 0, 2), 2);
    d.papers(0, 0, 0, 1);
    E.due("T2 torn anew, from today on", d.of(0, 9), 7);
    E.due("T3 known ahead: it lacks", d.owed(0, 6, 0, 2), 2);
  }

  /** A row of eight: two that are whole, and two numbers of a third. */
  private static void papersEnd() {
    int[][] due = {{0, 1, 1, 0}, {0, 2, 2, 0}, {0, 3, 2, 1}, {0, 20, 2, 1}, {2, 2, 2, 0}, {2, 3, 2, 1}, {5, 1, 1, 0},
        {5, 2, 1, 1}, {6, 1, 0, 1}, {7, 1, 0, 1}, {8, 1, 0, 1}, {9, 1, 0, 1}, {-1, 1, 0, 1}, {-2, 1, 0, 1}, {-3, 2, 0, 1},
        {Integer.MAX_VALUE, 20, 0, 1}, {Integer.MIN_VALUE, 20, 0, 1}};
    for (int[] t : due) {
      WrongsDesk d = Expect.desk(5);
      d.matter(0, 0, 0, 0, 0);
      Scene.row(d, 3, 2, 1, 1, 1, 1, 1, 1, 1, 1);
      String call = "P19 papers from " + t[0] + ", " + t[1];
      E.due(call, d.papers(0, 3, t[0], t[1]), t[2]);
      E.due(call + ": on file", d.count(4), t[2]);
      E.due(call + ": torn", d.of(0, 9), t[3] == 1 ? 5 : -1);
    }
    WrongsDesk d = Expect.desk(5);
    d.matter(0, 0, 0, 0, 0);
    d.tape(1, 2, 80);
    for (int i = 0; i < 80; i++) {
      d.item(1, i, 1);
    }
    E.due("P19 the most", d.papers(0, 1, 0, 20), 20);
    E.due("P19 to the row's end", d.papers(0, 1, 20, 20), 20);
    E.due("P19 not torn", d.of(0, 9), -1);
    E.due("P19 beyond the row's end", d.papers(0, 1, 21, 20), 19);
    E.due("P19 torn", d.of(0, 9), 5);
  }

  /** Each number of the second of three just beside what file() takes. */
  private static void papersFaulty() {
    int[][] faulty = {{0, 1, 1}, {10, 1, 1}, {1, -1, 1}, {1, 6, 1}, {1, 1, -100}, {1, 1, 100}, {Integer.MIN_VALUE, 1, 1}};
    for (int[] f : faulty) {
      WrongsDesk d = Expect.desk(5);
      d.matter(0, 0, 0, 0, 0);
      Scene.row(d, 0, 2, 9, 5, -99, f[0], f[1], f[2], 1, 0, 99);
      String call = "P19 papers with " + f[0] + " " + f[1] + " " + f[2];
      E.due(call, d.papers(0, 0, 0, 3), 1);
      E.due(call + ": what came ahead stays", d.count(4), 1);
      E.due(call + ": it stays", d.filed(0, 9, 5, 1), -99);
      E.due(call + ": not torn", d.of(0, 9), -1);
      E.due(call + ": at once", d.papers(0, 0, 3, 1), 0);
      E.due(call + ": not torn", d.of(0, 9), -1);
      E.due(call + ": behind it", d.papers(0, 0, 6, 1), 1);
      E.due(call + ": the word", d.filed(0, 1, 5, 1), 99);
      E.due(call + ": the row is missing behind it", d.papers(0, 0, 6, 2), 1);
      E.due(call + ": torn", d.of(0, 9), 5);
    }
  }

  // waiting, promises, reach

  /** A desk with a matter that is WATCHED from day 10 on for an ACT of sort 2 by day 12. */
  private static WrongsDesk watched() {
    WrongsDesk d = Expect.desk(10);
    Expect.law(d, 0, 0, "owe 1 0");
    d.matter(0, 0, 0, 0, 0);
    d.matter(0, 0, 0, 0, 0);
    d.ask(0);
    d.find(0, 1);
    d.file(0, 2, 10, 0);
    E.due("P14 watch", d.watch(0, 2, 12), 1);
    return d;
  }

  private static void promises() {
    WrongsDesk d = watched();
    E.due("T5 entered ahead", d.kept(0), 0);
    d.file(0, 2, 3, 0);
    E.due("T5 the first behind, done long ago", d.kept(0), 1);
    d = watched();
    d.file(1, 2, 3, 0);
    d.file(0, 1, 3, 0);
    E.due("T5 of another matter, of another sort", d.kept(0), 0);
    d.pass(2);
    E.due("T5 nothing, on that day", d.kept(0), 0);
    d.pass(1);
    E.due("T5 nothing, the day behind", d.kept(0), 3);
    d.file(0, 2, 13, 0);
    E.due("T5 done the day behind", d.kept(0), 2);
    d.file(0, 2, 12, 0);
    E.due("T5 done on that day, told late", d.kept(0), 1);
    d.file(0, 2, 13, 0);
    E.due("T5 one in time is enough", d.kept(0), 1);
    d = watched();
    d.pass(2);
    d.file(0, 2, 12, 0);
    E.due("T5 done on that day", d.kept(0), 1);
    WrongsDesk past = Expect.desk(10);
    Expect.law(past, 0, 0, "owe 1 0");
    past.matter(0, 0, 0, 0, 0);
    past.ask(0);
    past.find(0, 1);
    past.watch(0, 9, 0);
    E.due("T5 a day that went by", past.kept(0), 3);
    past.file(0, 9, 1, 0);
    E.due("T5 done behind it", past.kept(0), 2);
    past.file(0, 9, 0, 0);
    E.due("T5 done on it", past.kept(0), 1);
  }

  private static void overdue() {
    WrongsDesk d = Expect.desk(4);
    Expect.law(d, -1, 4, "answer 1");
    Expect.law(d, -1, 5, "answer 9999");
    d.matter(0, 0, 0, 0, 0);
    E.due("P10 the first working day behind", d.ask(0), 7);
    d.pass(3);
    E.due("T5 the law of the day on which it was asked", d.end(0, 0), 7);
    E.due("T5 not overdue on its end", d.end(0, 1), 0);
    d.pass(1);
    E.due("T5 overdue the day behind", d.end(0, 1), 1);
    d.feast(7);
    E.due("T5 feasts as they are told now", d.end(0, 0), 8);
    E.due("T5 not overdue any more", d.end(0, 1), 0);
    Expect.law(d, -1, 4, "answer 0");
    E.due("T5 the law as it is told now", d.end(0, 0), 4);
    E.due("T5 overdue", d.end(0, 1), 1);
    Expect.law(d, -1, 3, "answer 7");
    E.due("T5 a law in force ahead of that", d.end(0, 0), 4);
    WrongsDesk now = Expect.desk(5);
    Expect.law(now, -1, 0, "answer 0");
    now.matter(0, 0, 0, 0, 0);
    E.due("P10 none: the day itself, though off", now.ask(0), 5);
    E.due("T5 not overdue on it", now.end(0, 1), 0);
  }

  private static void reachEdges() {
    WrongsDesk d = Expect.desk(10);
    d.matter(0, 0, 0, 3, 0);
    Expect.law(d, -1, 0, "limit 0");
    E.due("T3 limit 0, on the day", d.reach(0, 3), 1);
    E.due("T3 limit 0, the day behind", d.reach(0, 4), 0);
    Expect.law(d, -1, 0, "limit 5");
    E.due("T3 as many as limit", d.reach(0, 8), 1);
    E.due("T3 one more than limit", d.reach(0, 9), 0);
    Expect.law(d, -1, 9, "limit 6");
    E.due("T3 the law of that day", d.reach(0, 9), 1);
    E.due("T3 not the law of the day behind", d.reach(0, 8), 1);
    E.due("T3 one more than limit", d.reach(0, 10), 0);
    E.due("P9 out", d.out(0), 1);
    d.matter(0, 0, 0, 4, 0);
    E.due("P9 out: in reach, as many as limit", d.out(1), -3);
    E.due("P10 ask, as many as limit", d.ask(1), 52);
    Expect.law(d, -1, 9, "reach !t0;limit 9999");
    E.due("T3 within the limit, but E does not hold", d.reach(0, 9), 0);
    Expect.law(d, -1, 9, "reach t0;limit 5");
    E.due("T3 E holds, but beyond the limit", d.reach(0, 9), 0);
    Expect.law(d, 0, 9, "reach t0;limit 99");
    E.due("T3 a body's law does not count", d.reach(0, 9), 0);
  }

  /** IN REACH goes by the law of the day that is asked, whether that is ahead of today or behind it. */
  private static void lawOfTheDay() {
    WrongsDesk d = Expect.desk(5);
    d.matter(0, 0, 0, 0, 0);
    Expect.law(d, -1, 0, "limit 3");
    Expect.law(d, -1, 4, "limit 6");
    Expect.law(d, -1, 9, "limit 9");
    int[] due = {1, 1, 1, 1, 1, 1, 1, 0, 0, 1, 0};
    for (int day = 0; day < due.length; day++) {
      E.due("T3 in reach on " + day, d.reach(0, day), due[day]);
    }
    Expect.law(d, -1, 0, "limit 0");
    E.due("T3 ahead of today", d.reach(0, 3), 0);
    E.due("T3 today", d.reach(0, 5), 1);
  }

  /** out(), ask() and find() go by today: not by the day on which it happened, nor by that on which it was asked. */
  private static void today() {
    WrongsDesk d = Expect.desk(10);
    Expect.law(d, 0, 0, "owe 1 5");
    Expect.law(d, -1, 0, "limit 5");
    int[] happened = {4, 5, 6};
    for (int day : happened) {
      d.matter(0, 0, 0, day, 0);
    }
    E.due("P10 once in reach, but not today", d.ask(0), -3);
    E.due("P10 it stays", d.of(0, 0), 0);
    E.due("P9 out", d.out(0), 1);
    E.due("P10 in reach for the last time", d.ask(1), 52);
    E.due("P9 in reach", d.out(2), -3);
    E.due("P11 not due yet", d.find(1, 0), -3);
    d.pass(1);
    E.due("P11 on due", d.find(1, 0), -3);
    E.due("P10 in reach for the last time", d.ask(2), 53);
    d.pass(2);
    E.due("P11 behind due, which it was not when it was asked", d.find(1, 0), 1);
    d.file(2, 1, 8, 0);
    E.due("P11 done in time", d.find(2, 0), -3);
    d.pass(1);
    E.due("P11 done in time", d.find(2, 0), -3);
    WrongsDesk later = Expect.desk(10);
    Expect.law(later, 0, 0, "owe 1 0");
    later.matter(0, 0, 0, 0, 0);
    later.ask(0);
    later.pass(1);
    later.file(0, 1, 0, 0);
    E.due("P11 it lacked when it was asked, but not today", later.find(0, 0), -3);
    E.due("P11 it stays", later.of(0, 0), 2);
  }

  /** All that of() tells, no two of its numbers the same. */
  private static void told() {
    WrongsDesk d = Expect.desk(8);
    Expect.law(d, 4, 0, "owe 1 0");
    for (int m = 0; m < 8; m++) {
      d.matter(0, 0, 0, 0, 0);
    }
    d.matter(1, 4, 7, 5, 77);
    d.matter(1, 4, 7, 5, 77);
    d.join(9, 6);
    d.pass(1);
    d.ask(8);
    d.pass(1);
    d.find(8, 555);
    d.pass(1);
    d.papers(8, 0, 0, 1);
    int[] found = {3, 1, 4, 7, 5, 77, 9, 555, -1, 11};
    int[] joined = {5, 1, 4, 7, 5, 77, -1, -1, 6, -1};
    for (int what = 0; what < 10; what++) {
      E.due("P8 of a found one " + what, d.of(8, what), found[what]);
      E.due("P8 of a joined one " + what, d.of(9, what), joined[what]);
    }
  }

  private static void joins() {
    WrongsDesk d = Expect.desk(10);
    Expect.law(d, 0, 0, "owe 1 0");
    Expect.law(d, -1, 0, "reach t0");
    for (int m = 0; m < 7; m++) {
      d.matter(0, 0, m == 6 ? 1 : 0, 0, 0);
    }
    d.ask(1);
    d.ask(2);
    d.find(2, 1);
    d.watch(2, 1, 1);
    E.due("P13 to a matter", d.join(0, 3), 1);
    E.due("P13 to one that is asked", d.join(3, 1), 1);
    E.due("P13 to one that is joined", d.join(4, 3), -3);
    E.due("P13 to one that is watched", d.join(4, 2), 1);
    E.due("P13 it is not made out by that", d.of(2, 0), 6);
    d.out(6);
    E.due("P13 to one that is out", d.join(5, 6), -3);
    E.due("P13 which changes nothing", d.of(5, 0), 0);
    E.due("P13 which changes nothing", d.of(5, 8), -1);
    E.due("P8 to which", d.of(0, 8), 3);
    E.due("P8 to which", d.of(4, 8), 2);
  }
}
