/** Promises 42 to 49: acts by kind, casts, counts and tapes. */
public final class ActsTest {
  private static final Expect E = new Expect("ActsTest");
  private static final long NO = Long.MIN_VALUE;

  public static void main(String[] args) {
    bodies();
    traces();
    numbersApart();
    taken();
    counts();
    tapes();
    items();
    shifts();
    E.close();
  }

  /** Matter k is of kind k, of body 2 and topic 5. */
  private static WrongsDesk kinds() {
    WrongsDesk d = Expect.desk(10);
    Expect.law(d, 2, 0, "owe 1 0");
    Expect.law(d, -1, 0, "reach l>0");
    for (int k = 0; k < 7; k++) {
      d.matter(0, 2, 5, 0, k == 1 ? 0 : 9);
    }
    d.out(1);
    int[] asked = {2, 3, 4, 6};
    for (int m : asked) {
      d.ask(m);
    }
    d.find(3, 1);
    d.settle(4);
    d.join(5, 0);
    d.find(6, 1);
    d.watch(6, 1, 20);
    for (int k = 0; k < 7; k++) {
      E.due("kind", d.of(k, 0), k);
    }
    return d;
  }

  private static void bodies() {
    WrongsDesk d = kinds();
    // with x = 100: waits, binds, shows
    int[] waits = {100, 101, 100 + 2 + 2, 100 + 3 + 2, 100 + 4 + 2, 98 + 5, 100 + 6 + 2 ^ 9};
    int[] binds = new int[7];
    for (int k = 0; k < 7; k++) {
      binds[k] = waits[k] * 2;
    }
    binds[1] = -binds[1];
    binds[3] += 106;
    binds[6] += (101 + 6 + 2 ^ 9) - 1;
    int[] shows = new int[7];
    for (int k = 0; k < 7; k++) {
      shows[k] = binds[k] ^ 5;
    }
    shows[3] -= 5;
    shows[6] -= 5;
    shows[4] = waits[4] * 3;
    for (int k = 0; k < 7; k++) {
      E.due("waits of kind " + k, d.act(k, 0, 100), waits[k]);
      E.due("binds of kind " + k, d.act(k, 1, 100), binds[k]);
      E.due("shows of kind " + k, d.act(k, 2, 100), shows[k]);
    }
    E.due("wrapping", d.act(1, 0, Integer.MAX_VALUE), Integer.MIN_VALUE);
    E.due("wrapping", d.act(5, 0, Integer.MIN_VALUE), Integer.MIN_VALUE + 3);
    E.due("wrapping", d.act(0, 1, 1 << 30), Integer.MIN_VALUE);
    E.due("wrapping", d.act(4, 2, Integer.MAX_VALUE), (Integer.MAX_VALUE + 6) * 3);
  }

  private static void traces() {
    WrongsDesk d = kinds();
    int[][][] due = {
        {{10}, {11, 10}, {12, 11, 10}},
        {{10}, {20, 11, 10}, {12, 20, 11, 10}},
        {{30, 10}, {11, 30, 10}, {12, 11, 30, 10}},
        {{30, 10}, {40, 11, 30, 10, 30, 10}, {41, 12, 40, 11, 30, 10, 30, 10}},
        {{30, 10}, {11, 30, 10}, {50, 30, 10}},
        {{60, 10}, {11, 60, 10}, {12, 11, 60, 10}},
        {{70, 30, 10}, {71, 40, 11, 70, 30, 10, 70, 30, 10}, {41, 12, 71, 40, 11, 70, 30, 10, 70, 30, 10}}};
    for (int k = 0; k < 7; k++) {
      for (int act = 0; act < 3; act++) {
        d.act(k, act, 1);
        int[] ran = due[k][act];
        E.due("ran", d.count(10), ran.length);
        for (int i = 0; i < ran.length; i++) {
          E.due("trace of kind " + k + " act " + act + " at " + i, d.trace(i), ran[i]);
        }
        E.due("trace's end", d.trace(ran.length), -1);
        E.due("trace ahead", d.trace(-1), -1);
      }
    }
    int[][] none = {{7, 0}, {-1, 0}, {0, 3}, {0, -1}};
    for (int[] n : none) {
      d.act(0, 2, 1);
      E.due("act: none", d.act(n[0], n[1], 5), 0);
      E.due("no trace then", d.trace(0), -1);
      E.due("no trace then", d.count(10), 0);
    }
  }

  /** Matter 7 + k is of kind k, of body 5 and topic 9: no number of it is that of its kind. */
  private static void numbersApart() {
    WrongsDesk d = Expect.desk(10);
    Expect.law(d, 5, 0, "owe 1 0");
    for (int m = 0; m < 14; m++) {
      d.matter(0, m < 7 ? 0 : 5, 9, 0, 9);
    }
    Expect.law(d, -1, 0, "reach t0");
    d.out(8);
    Expect.law(d, -1, 0, "reach t9");
    int[] asked = {9, 10, 11, 13};
    for (int m : asked) {
      d.ask(m);
    }
    d.find(10, 1);
    d.settle(11);
    d.join(12, 0);
    d.find(13, 1);
    d.watch(13, 1, 20);
    // with x = 100: n, body and topic are 7 + k, 5 and 9
    int[][] due = {{107, 214, 214 ^ 9}, {108, -216, -216 ^ 9}, {114, 228, 228 ^ 9}, {115, 230 + 116, (346 ^ 9) - 5},
        {116, 232, 348}, {110, 220, 220 ^ 9}, {118 ^ 9, (118 ^ 9) * 2 + (119 ^ 9) - 1, 0}};
    due[6][2] = (due[6][1] ^ 9) - 5;
    int[][] ran = {{1, 2, 3}, {1, 3, 4}, {2, 3, 4}, {2, 6, 8}, {2, 3, 3}, {2, 3, 4}, {3, 9, 11}};
    int[][] first = {{10, 11, 12}, {10, 20, 12}, {30, 11, 12}, {30, 40, 41}, {30, 11, 50}, {60, 11, 12}, {70, 71, 41}};
    for (int k = 0; k < 7; k++) {
      for (int act = 2; act >= 0; act--) {
        String call = "T9 act " + act + " of kind " + k;
        E.due(call, d.act(7 + k, act, 100), due[k][act]);
        E.due(call + ": bodies that ran", d.count(10), ran[k][act]);
        E.due(call + ": the first", d.trace(0), first[k][act]);
        E.due(call + ": the last", d.trace(ran[k][act] - 1), 10);
      }
    }
    d.act(13, 2, 1);
    d.act(7, 0, 1);
    for (int i = 1; i < 25; i++) {
      E.due("P43 nothing is left of a longer trace: " + i, d.trace(i), -1);
    }
  }

  private static void taken() {
    WrongsDesk d = kinds();
    String[] under = {"0", "01", "02", "023", "024", "05", "0236"};
    for (int m = 0; m < 7; m++) {
      for (int k = 0; k < 7; k++) {
        E.due("taken(" + m + ", " + k + ")", d.taken(m, k), under[m].indexOf('0' + k) >= 0 ? m : -12);
      }
    }
    E.due("taken: k", d.taken(9, 7), -2);
    E.due("taken: k", d.taken(0, -1), -2);
    E.due("taken: nothing", d.taken(7, 0), -11);
    E.due("taken: nothing", d.taken(-1, 0), -11);
  }

  private static void counts() {
    WrongsDesk d = kinds();
    d.feast(1);
    d.file(0, 1, 0, 0);
    d.feed(0, 3);
    d.cause(0, 0, 0);
    d.cause(0, 0, 0);
    for (int h = 0; h < 5; h++) {
      d.grade(h, 0, 1);
    }
    for (int m = 0; m < 6; m++) {
      d.plan(m, 1, 1);
    }
    d.act(5, 2, 0);
    int[] due = {10, 1, 2, 7, 1, 2, 3, 2, 5, 6, 4};
    for (int what = 0; what < due.length; what++) {
      E.due("count(" + what + ")", d.count(what), due[what]);
    }
    E.due("count: bad", d.count(11), -2);
    E.due("count: bad", d.count(-1), -2);
  }

  private static void tapes() {
    WrongsDesk d = new WrongsDesk();
    E.due("tape: none", d.tape(6, 4, -1), -1);
    E.due("tape: none", d.tape(-1, 0, 0), -1);
    E.due("tape: sort", d.tape(0, 4, -1), -2);
    E.due("tape: sort", d.tape(0, -2, 0), -2);
    E.due("tape: too many", d.tape(0, 0, 81), -2);
    E.due("tape: size", d.tape(0, 0, -1), -14);
    E.due("tape: size", d.tape(0, 3, Integer.MIN_VALUE), -14);
    E.due("nothing was made", d.item(0, 0, 0), -11);
    E.due("tape", d.tape(5, 3, 80), 1);
    E.due("last place", d.item(5, 79, 7), 1);
    E.due("read", d.read(5, 79), 7);
    E.due("tape again", d.tape(5, 3, 80), 1);
    E.due("all 0", d.read(5, 79), 0);
    d.item(5, 0, 9);
    E.due("tape: refused", d.tape(5, 3, 81), -2);
    E.due("refused changes nothing", d.read(5, 0), 9);
    E.due("nothing, n does not matter", d.tape(5, -1, -9), 1);
    E.due("nothing, n does not matter", d.tape(5, -1, 99), 1);
    E.due("read nothing", d.read(5, 0), NO);
    E.due("a row of none", d.tape(4, 1, 0), 1);
    E.due("a row of none has no place", d.item(4, 0, 0), -13);
  }

  private static void items() {
    WrongsDesk d = new WrongsDesk();
    long[] told = {127, 128, 255, 32768, 65535, 1L << 31, -1, 1L << 32, Long.MAX_VALUE, Long.MIN_VALUE + 5, -129};
    for (int sort = 0; sort < 4; sort++) {
      d.tape(sort, sort, 2);
      for (long v : told) {
        long due = sort == 0 ? (byte) v : sort == 1 ? (short) v : sort == 2 ? (int) v : v;
        E.due("item", d.item(sort, 1, v), 1);
        E.due("read", d.read(sort, 1), due);
      }
      E.due("the other stays", d.read(sort, 0), 0);
    }
    E.due("item: none", d.item(6, 0, 0), -1);
    E.due("item: none", d.item(-1, 0, 0), -1);
    E.due("item: nothing", d.item(5, -1, 0), -11);
    E.due("item: place", d.item(0, 2, 0), -13);
    E.due("item: place", d.item(0, -1, 0), -13);
    E.due("read: none", d.read(6, 0), NO);
    E.due("read: none", d.read(-1, 0), NO);
    E.due("read: place", d.read(0, 2), NO);
    E.due("read: place", d.read(0, -1), NO);
  }

  private static void rowIs(WrongsDesk d, int tape, int... due) {
    for (int i = 0; i < due.length; i++) {
      E.due("read(" + tape + ", " + i + ")", d.read(tape, i), due[i]);
    }
  }

  private static void shifts() {
    WrongsDesk d = new WrongsDesk();
    d.tape(0, 0, 5);
    d.tape(1, 0, 3);
    d.tape(2, 1, 5);
    for (int i = 0; i < 5; i++) {
      d.item(0, i, i + 1);
    }
    E.due("shift: none", d.shift(6, 0, 3, 0, 0), -1);
    E.due("shift: none", d.shift(0, 0, -1, 0, 0), -1);
    E.due("shift: nothing", d.shift(3, 0, 0, 0, 0), -11);
    E.due("shift: nothing", d.shift(0, 0, 3, 0, 0), -11);
    E.due("shift: another sort", d.shift(0, -1, 2, 0, 0), -12);
    int[][] off = {{-1, 0, 1}, {0, -1, 1}, {0, 0, -1}, {0, 0, 4}, {3, 0, 3}, {0, 1, 3}, {6, 0, 0}, {0, 4, 0},
        {Integer.MAX_VALUE, 0, 1}, {0, Integer.MAX_VALUE, 1}, {1, 1, Integer.MAX_VALUE}, {0, 0, Integer.MIN_VALUE}};
    for (int[] o : off) {
      E.due("shift: place " + o[0] + " " + o[1] + " " + o[2], d.shift(0, o[0], 1, o[1], o[2]), -13);
    }
    rowIs(d, 1, 0, 0, 0);
    E.due("shift none at the ends", d.shift(0, 5, 1, 3, 0), 0);
    E.due("shift", d.shift(0, 2, 1, 0, 3), 3);
    rowIs(d, 1, 3, 4, 5);
    E.due("shift on", d.shift(0, 0, 0, 1, 4), 4);
    rowIs(d, 0, 1, 1, 2, 3, 4);
    E.due("shift back", d.shift(0, 2, 0, 0, 3), 3);
    rowIs(d, 0, 2, 3, 4, 3, 4);
  }
}
