import java.util.ArrayList;
import java.util.List;

/**
 * A desk on which there is something of everything, and all that can be read of one: so a test can tell whether a
 * call changed anything. Both together take less than 512 calls.
 */
final class Scene {
  static final int TODAY = 21;
  static final int MATTERS = 9;

  /** One call on a desk. */
  interface Call {
    long on(WrongsDesk desk);
  }

  private Scene() { }

  /** Matters 0 to 6 are of KIND 0 to 6; 7 is FOUND and UNLIKE 3; 8 is a MATTER out of reach. Matter 0 is TORN. */
  static WrongsDesk desk() {
    WrongsDesk d = Expect.desk(20);
    d.feast(16);
    Expect.law(d, 0, 0, "owe 1 2;owe 2 3 if t1|a3;owe 3 1 unless l<5");
    Expect.law(d, -1, 0, "reach t1|t2;limit 18;answer 5;scale 3 2;cap 90;rate 50;few 2");
    matters(d);
    tapes(d);
    d.pass(1);
    d.file(3, 3, 18, 2);
    d.file(7, 3, 18, 2);
    d.papers(0, 4, 0, 1);
    d.cause(-1, 0, 0);
    d.cause(0, 1, 1);
    d.cause(0, 3, 2);
    d.report(4);
    hands(d);
    d.plan(3, 2, 22);
    d.plan(6, 1, 25);
    d.plan(0, 4, 9999);
    Expect.text(d, "few 7");
    d.act(6, 2, 5);
    return d;
  }

  private static void matters(WrongsDesk d) {
    int[][] told = {{0, 0, 1, 3, 50}, {1, 0, 5, 4, 50}, {0, 0, 1, 5, 60}, {1, 0, 2, 6, 70}, {0, 1, 2, 7, 80},
        {1, 1, 3, 8, 90}, {0, 0, 2, 9, 40}, {0, 0, 2, 6, 30}, {1, 0, 9, 10, 20}};
    for (int[] t : told) {
      d.matter(t[0], t[1], t[2], t[3], t[4]);
    }
    d.out(1);
    int[] asked = {2, 3, 4, 6, 7};
    for (int m : asked) {
      d.ask(m);
    }
    d.settle(4);
    d.join(5, 2);
    d.file(2, 1, 10, 5);
    d.file(2, 3, 11, -4);
    d.file(3, 1, 12, 7);
    d.file(7, 1, 13, 7);
    d.file(6, 2, 14, 9);
    d.find(3, 100);
    d.find(6, 300);
    d.find(7, 200);
    d.watch(6, 2, 30);
    d.file(6, 2, 15, -1);
  }

  /** 0 and 5 ints that are PAPERS, 1 bytes that are an ORDER, 2 shorts, 3 longs, 4 nothing. */
  private static void tapes(WrongsDesk d) {
    row(d, 0, 2, 1, 20, 5, 2, 20, -99);
    row(d, 5, 2, 9, 0, 99);
    row(d, 1, 0, 2, 0, 1, 77);
    row(d, 2, 1, 300, -5, 7);
    row(d, 3, 3, Long.MAX_VALUE, -8);
  }

  static void row(WrongsDesk d, int tape, int sort, long... items) {
    d.tape(tape, sort, items.length);
    for (int i = 0; i < items.length; i++) {
      d.item(tape, i, items[i]);
    }
  }

  private static void hands(WrongsDesk d) {
    int[][] read = {{0, 0, 3}, {1, 0, 5}, {0, 2, 9}, {2, 2, 4}, {5, 8, 7}, {4, 8, 2}};
    for (int[] r : read) {
      d.grade(r[0], r[1], r[2]);
    }
  }

  /** All that can be read, a line each. The last calls change the desk, so nothing is read behind them. */
  static List<String> readings(WrongsDesk d) {
    List<String> all = new ArrayList<>();
    for (int what = 0; what <= 10; what++) {
      all.add("count(" + what + ") " + d.count(what));
    }
    for (int i = 0; i < 11; i++) {
      all.add("trace(" + i + ") " + d.trace(i));
    }
    ofMatters(d, all);
    ofLaws(d, all);
    for (int i = 0; i < 7; i++) {
      for (int what = 0; what < 4; what++) {
        all.add("row(" + i + ", " + what + ") " + d.row(i, what));
      }
    }
    ofHandsAndWeek(d, all);
    int[] items = {6, 4, 3, 2, 1, 3};
    for (int tape = 0; tape < 6; tape++) {
      for (int i = 0; i < items[tape]; i++) {
        all.add("read(" + tape + ", " + i + ") " + d.read(tape, i));
      }
    }
    changing(d, all);
    return all;
  }

  private static void ofMatters(WrongsDesk d, List<String> all) {
    for (int m = 0; m < MATTERS; m++) {
      for (int what = 0; what < 10; what++) {
        all.add("of(" + m + ", " + what + ") " + d.of(m, what));
      }
      for (int sort = 1; sort <= 3; sort++) {
        for (int what = 1; what <= 3; what++) {
          all.add("filed(" + m + ", " + sort + ", 9999, " + what + ") " + d.filed(m, sort, 9999, what));
        }
      }
      all.add("owes(" + m + ") " + d.owes(m, TODAY));
      all.add("good(" + m + ") " + d.good(m, TODAY));
    }
    all.add("kept(6) " + d.kept(6));
    all.add("end(2, 0) " + d.end(2, 0));
  }

  private static void ofLaws(WrongsDesk d, List<String> all) {
    for (int what = 0; what <= 8; what++) {
      all.add("lawful(-1, " + what + ") " + d.lawful(-1, 9999, what));
    }
    all.add("lawful(0, 0) " + d.lawful(0, 9999, 0));
    all.add("lawful(1, 0) " + d.lawful(1, 9999, 0));
    for (int cause = 0; cause < 3; cause++) {
      all.add("reaches(" + cause + ", 0) " + d.reaches(cause, 0));
      all.add("reaches(" + cause + ", 1) " + d.reaches(cause, 1));
    }
    all.add("fewest() " + d.fewest());
    for (int what = 0; what < 3; what++) {
      all.add("unlike(" + what + ") " + d.unlike(what));
    }
  }

  private static void ofHandsAndWeek(WrongsDesk d, List<String> all) {
    for (int hand = 0; hand < 6; hand++) {
      all.add("habit(" + hand + ", 0) " + d.habit(hand, 0));
      all.add("habit(" + hand + ", 1) " + d.habit(hand, 1));
    }
    all.add("agreed(0, 1) " + d.agreed(0, 1));
    all.add("agreed(0, 2) " + d.agreed(0, 2));
    int[] asked = {0, 1, 10, 11, 12};
    for (int what : asked) {
      all.add("week(" + what + ") " + d.week(what));
    }
    all.add("judge(1) " + d.judge(1));
    all.add("working(10, 9) " + d.working(10, 9));
  }

  /** Who is LET and what THE TEXT is can be read by a change alone. */
  private static void changing(WrongsDesk d, List<String> all) {
    all.add("let(0) " + d.let(0, 1));
    all.add("let(1) " + d.let(1, 0));
    all.add("law(2, 0) " + d.law(2, 0));
    for (int what = 1; what <= 8; what++) {
      all.add("lawful(2, " + what + ") " + d.lawful(2, 0, what));
    }
  }
}
