/** The edges of laws: where a text stops being one, how many digits, clauses and signs within, on and behind a day. */
public final class LawEdgesTest {
  private static final Expect E = new Expect("LawEdgesTest");

  public static void main(String[] args) {
    beginnings();
    everySign();
    digits();
    within();
    clauses();
    bytes();
    inForce();
    lastCounts();
    nothingLeft();
    strict();
    joined();
    words();
    lawOfTheDay();
    due();
    wrongs();
    tenOwed();
    E.close();
  }

  /** The place of the fault; -1: it is a law. */
  private static int fault(String text) {
    WrongsDesk d = new WrongsDesk();
    int answer = Expect.law(d, 1, 2, text);
    return answer >= 0 ? -1 : -10 - answer;
  }

  /** Behind each ^ what stands ahead is a law; all else that stands ahead of a place ends too early there. */
  private static final String[] BEGINNINGS = {"owe 1 2^", "owe 9 0^1^2^3^ if t0^", "owe 3 9^9^9^9^ unless a1^&a9^|t9^",
      "reach w1<0^0^|w9>9^9^", "reach l<0^0^0^0^&l>1^2^3^4^|d<9^9^9^9^&d>0^", "reach !!t1^&(a2)^|(!(t3|t4)&t5)^",
      "limit 0^1^2^3^", "answer 9^9^9^9^", "scale 0 1^", "scale 1234 9^0^0^0^", "cap 0^", "rate 7^7^",
      "few 1^;cap 2^;rate 3^;scale 4 5^;reach t6^;owe 7 8^;limit 9^;answer 1^"};

  private static void beginnings() {
    for (String marked : BEGINNINGS) {
      StringBuilder text = new StringBuilder();
      for (int i = 0; i < marked.length(); i++) {
        if (marked.charAt(i) != '^') {
          boolean isLaw = i > 0 && marked.charAt(i - 1) == '^';
          E.due("P23 '" + text + "'", fault(text.toString()), isLaw ? -1 : text.length());
          text.append(marked.charAt(i));
        }
      }
      E.due("P23 '" + text + "'", fault(text.toString()), -1);
    }
  }

  private static final String SIGNS = "owe if unless reach limit answer scale cap rate few tawd0123456789;!()|&<>"
      + "=/:TW@`{}[]?,.-+xyz\"'#\u0000\t\n\r\u007f\u0080\u00a0\u00b1\u00ff";

  /** Behind every beginning, every sign: the fault is where PlainDesk, which tries all ways at once, has it. */
  private static void everySign() {
    String[] texts = {"owe 1 2345 if t0", "owe 9 9999 unless !a1&(w2<34|w5>67)", "reach l<1234|d>5678&((((((t1))))))",
        "reach !!!!!!t1;limit 12;answer 3456", "scale 0012 3456;cap 7;rate 8;few 9",
        "few 1;few 1;few 1;few 1;few 1;few 1;few 1;few 1;few 1;few 1", "reach (!(!(!t1)))"};
    for (String text : texts) {
      for (int at = 0; at <= text.length(); at++) {
        for (int k = 0; k < SIGNS.length(); k++) {
          if (SIGNS.indexOf(SIGNS.charAt(k)) == k) {
            String tried = text.substring(0, at) + SIGNS.charAt(k);
            E.due("P23 '" + tried + "'", fault(tried), plainFault(tried));
          }
        }
      }
    }
  }

  private static int plainFault(String text) {
    PlainDesk plain = new PlainDesk();
    for (int i = 0; i < text.length(); i++) {
      plain.feed(text.charAt(i), 1);
    }
    int answer = plain.law(1, 2);
    return answer >= 0 ? -1 : -10 - answer;
  }

  private static void digits() {
    Object[][] told = {{"owe 0 1", 4}, {"owe 10 1", 5}, {"owe 1 00000", 10}, {"limit 00000", 10}, {"answer 12345", 11},
        {"scale 12345 1", 10}, {"scale 1 12345", 12}, {"scale 1 0", 8}, {"scale 1 01", 8}, {"scale 0 0", 8}, {"cap 12345", 8},
        {"rate 12345", 9}, {"few 12345", 8}, {"reach t10", 8}, {"reach a0", 7}, {"reach a10", 8}, {"reach w0<1", 7},
        {"reach w10<1", 8}, {"reach w1<100", 11}, {"reach w1>100", 11}, {"reach w1<000", 11}, {"reach l<10000", 12},
        {"reach l>10000", 12}, {"reach d<10000", 12}, {"reach d>10000", 12}, {"owe 1 /", 6}, {"owe 1 :", 6}, {"owe / 1", 4},
        {"reach t/", 7}, {"reach w:<1", 7}, {"reach w1</", 9}, {"reach w1>:", 9}, {"reach l</", 8}, {"reach d>:", 8},
        {"reach l=1", 7}, {"reach d1", 7}, {"reach w1 1", 8}, {"scale 1 /", 8}, {"limit -1", 6}, {"limit +1", 6}};
    for (Object[] row : told) {
      E.due("T3 " + row[0], fault((String) row[0]), (Integer) row[1]);
    }
    String[] laws = {"owe 1 0000", "owe 9 9999", "limit 0000", "scale 0000 1", "scale 9999 9999", "scale 0 1000", "reach w9>00",
        "reach w1<99", "reach l<0000", "reach d>9999", "reach t0", "reach t9", "reach a1", "reach a9", "rate 0", "few 0"};
    for (String text : laws) {
      E.due("T3 " + text, fault(text), -1);
    }
  }

  /** In each clause that has an E: six within one another, and none within six. */
  private static void within() {
    String[] ahead = {"reach ", "owe 1 2 if ", "owe 1 2 unless ", "cap 1;reach t1|", "owe 1 2 if !t1&"};
    for (String a : ahead) {
      int at = a.length();
      E.due("T3 six ( behind " + a, fault(a + "((((((t1))))))"), -1);
      E.due("T3 seven ( behind " + a, fault(a + "(((((((t1)))))))"), at + 6);
      E.due("T3 six ! behind " + a, fault(a + "!!!!!!t1"), -1);
      E.due("T3 seven ! behind " + a, fault(a + "!!!!!!!t1"), at + 6);
      E.due("T3 ( within six ! behind " + a, fault(a + "!!!!!!(t1)"), at + 6);
      E.due("T3 ! within six ( behind " + a, fault(a + "((((((!t1))))))"), at + 6);
      E.due("T3 five and one behind " + a, fault(a + "!(!(!(t1)))"), -1);
      E.due("T3 six and one behind " + a, fault(a + "!(!(!((t1))))"), at + 6);
      E.due("T3 a second one within six behind " + a, fault(a + "((((((t1|!t2))))))"), at + 9);
      E.due("T3 the sixth anew behind " + a, fault(a + "(((((t1&(t2)|!t3)))))&!!!!!!t4"), -1);
      E.due("T3 no ) that opens none behind " + a, fault(a + "(t1))"), at + 4);
      E.due("T3 a ( that is not closed behind " + a, fault(a + "(t1;cap 1"), at + 3);
    }
  }

  private static void clauses() {
    String nine = "few 1;few 2;few 3;few 4;few 5;few 6;few 7;few 8;few 9";
    E.due("T3 nine", fault(nine), -1);
    E.due("T3 ten", fault(nine + ";cap 1"), -1);
    E.due("T3 nine and a ;", fault(nine + ";"), 54);
    E.due("T3 ten and a ;", fault(nine + ";cap 1;"), 59);
    E.due("T3 eleven", fault(nine + ";cap 1;cap 2"), 59);
    E.due("T3 a fault in the tenth", fault(nine + ";cap x;cap 2"), 58);
    E.due("T3 none", fault(""), 0);
    E.due("T3 none between", fault("few 1;;few 2"), 6);
    E.due("T3 two blanks", fault("few  1"), 4);
    E.due("T3 a blank behind", fault("few 1 ;few 2"), 5);
    E.due("T3 a blank ahead", fault(" few 1"), 0);
    E.due("T3 a blank in E", fault("reach t1 |t2"), 8);
    E.due("T3 another blank", fault("owe 1 2  if t1"), 8);
  }

  private static void bytes() {
    WrongsDesk d = new WrongsDesk();
    E.due("P22 the lowest one", d.feed(0x7b7c7d00 | 'c', 1), 1);
    E.due("P22 the lowest three, the highest first", d.feed(0x7b000000 | 'a' << 16 | 'p' << 8 | ' ', 3), 4);
    E.due("P22 none", d.feed('9', 0), 4);
    E.due("P22 four", d.feed('1' << 24 | '2' << 16 | '3' << 8 | '4', 4), 8);
    E.due("P23 a law", d.law(0, 0), 0);
    E.due("P24 cap", d.lawful(0, 0, 6), 1234);
    E.due("P22 the highest bit", d.feed(0x80000000, 4), 4);
    E.due("P23 a byte of 128", d.law(0, 0), -10);
    d.feed('c' << 24 | 'a' << 16 | 'p' << 8 | ' ', 4);
    d.feed(-1, 1);
    E.due("P23 a byte of 255", d.law(0, 0), -14);
    d.feed('c' << 24 | 'a' << 16 | 'p' << 8 | ' ' | 0x80, 4);
    E.due("P23 a blank with the highest bit", d.law(0, 0), -13);
  }

  private static void inForce() {
    WrongsDesk d = new WrongsDesk();
    int[] from = {5, 3, 9999, 5, 0};
    int[][] due = {{-1, 0, 0, 0, 0}, {1, 0, 0, 0, 0}, {1, 0, 0, 0, 2}, {1, 3, 3, 3, 2}, {1, 3, 3, 3, 2}};
    int[] days = {4, 5, 6, 9998, 9999};
    for (int n = 0; n < from.length; n++) {
      E.due("T3 law", Expect.law(d, 2, from[n], "few " + n), n);
      for (int k = 0; k < days.length; k++) {
        E.due("T3 " + (n + 1) + " laws, on " + days[k], d.lawful(2, days[k], 0), due[n][k]);
        E.due("T3 its few", d.lawful(2, days[k], 8), due[n][k] < 0 ? 1 : due[n][k]);
      }
    }
    E.due("T3 on the first day", d.lawful(2, 0, 0), 4);
    E.due("T3 the day ahead of the second", d.lawful(2, 2, 0), 4);
    E.due("T3 of another body", d.lawful(1, 9999, 0), -1);
    E.due("T3 of the office", d.lawful(-1, 9999, 0), -1);
    Expect.law(d, -1, 5, "few 9");
    E.due("T3 the office's is no body's", d.lawful(2, 5, 0), 3);
    E.due("T3 the office's", d.lawful(-1, 5, 0), 5);
    E.due("T3 the office's the day ahead", d.lawful(-1, 4, 0), -1);
  }

  private static void lastCounts() {
    WrongsDesk d = Expect.desk(0);
    d.matter(0, 0, 1, 0, 0);
    d.matter(0, 0, 2, 0, 0);
    String[] words = {"limit", "answer", "cap", "rate", "few"};
    int[] whats = {2, 3, 6, 7, 8};
    for (int i = 0; i < words.length; i++) {
      Expect.law(d, -1, 0, words[i] + " 7;owe 1 1;" + words[i] + " 0");
      E.due("T3 of two " + words[i], d.lawful(-1, 0, whats[i]), 0);
      Expect.law(d, -1, 0, words[i] + " 0;" + words[i] + " 9999");
      E.due("T3 of two " + words[i], d.lawful(-1, 0, whats[i]), 9999);
    }
    Expect.law(d, -1, 0, "scale 5 6;scale 7 8");
    E.due("T3 of two scale, n", d.lawful(-1, 0, 4), 7);
    E.due("T3 of two scale, m", d.lawful(-1, 0, 5), 8);
    WrongsDesk r = Expect.desk(0);
    r.matter(0, 0, 1, 0, 0);
    r.matter(0, 0, 2, 0, 0);
    Expect.law(r, -1, 0, "reach t1;cap 1;reach t2");
    E.due("T3 of two reach, not the first", r.reach(0, 0), 0);
    E.due("T3 of two reach, the last", r.reach(1, 0), 1);
    Expect.law(r, 0, 0, "owe 4 1;cap 1;owe 4 1;owe 5 1");
    E.due("T3 of owe all", r.owes(0, 0), 3);
    E.due("P24 clauses owe", r.lawful(0, 0, 1), 3);
    E.due("P26 its clause among those owe", r.owed(0, 0, 2, 3), 2);
  }

  /** A text with a fault leaves nothing behind for the law that comes next. */
  private static void nothingLeft() {
    WrongsDesk d = Expect.desk(0);
    d.matter(0, 0, 1, 0, 0);
    E.due("P23 a fault at the end", Expect.law(d, -1, 0, "reach t9;owe 1 1;limit 1;answer 2;scale 3 4;cap 5;rate 6;few 7;x"),
        -10 - 63);
    E.due("P23 no law came", d.count(5), 0);
    E.due("P24 without a law", d.lawful(-1, 0, 0), -1);
    E.due("P23 the next", Expect.law(d, -1, 0, "owe 2 2 if t1"), 0);
    int[] without = {0, 1, 9999, 30, 0, 1, 9999, 0, 1};
    for (int what = 0; what < 9; what++) {
      E.due("T3 without clauses, " + what, d.lawful(-1, 0, what), without[what]);
    }
    E.due("T3 reach holds", d.reach(0, 0), 1);
    Expect.law(d, 0, 0, "owe 1 1 if t9;owe 1 1 if t9;x");
    E.due("P23 the next", Expect.law(d, 0, 0, "owe 3 3 if t1"), 1);
    E.due("T3 its owe alone", d.owes(0, 0), 1);
    E.due("T3 its sort", d.owed(0, 0, 0, 0), 3);
    E.due("T3 its due", d.owed(0, 0, 0, 1), 3);
    E.due("P23 a fault behind reach", Expect.law(d, -1, 0, "reach t9;cap"), -10 - 12);
    E.due("P23 the next has no E", Expect.law(d, -1, 0, "cap 1"), 2);
    E.due("T3 reach holds", d.reach(0, 0), 1);
    E.due("P23 a fault behind reach", Expect.law(d, -1, 0, "reach t9|t9;cap"), -10 - 15);
    E.due("P23 the next owes alone", Expect.law(d, -1, 0, "owe 1 1 if t9"), 3);
    E.due("T3 reach holds", d.reach(0, 0), 1);
    afterLongFaults("reach t2|t1&t3", 0);
    afterLongFaults("reach t2|t1&!t3", 1);
    afterLongFaults("owe 1 1;reach t2", 0);
    afterLongFaults("reach !t2", 1);
  }

  /** The law told first behind long texts with a FAULT: what they held is gone, so that there is room for its E. */
  private static void afterLongFaults(String text, int reach) {
    WrongsDesk d = Expect.desk(0);
    d.matter(0, 0, 1, 0, 0);
    String longest = "reach t9" + "|t9".repeat(50) + "x";
    for (int n = 0; n < 3; n++) {
      E.due("P23 a fault at a long text's end", Expect.law(d, -1, 0, longest), -10 - 158);
    }
    E.due("P23 '" + text + "' is read from its beginning on", Expect.law(d, -1, 0, text), 0);
    E.due("T3 whether " + text + " holds", d.reach(0, 0), reach);
  }

  /** Whether an E holds of a matter of topic 3 and loss 50, on the sixth day behind that on which it happened. */
  private static int holds(String e, int word) {
    WrongsDesk d = Expect.desk(10);
    d.matter(0, 0, 3, 4, 50);
    d.file(0, 2, 7, word);
    Expect.law(d, -1, 0, "reach " + e);
    return d.reach(0, 10);
  }

  private static void strict() {
    Object[][] told = {{"l<51", 1}, {"l<50", 0}, {"l<49", 0}, {"l>49", 1}, {"l>50", 0}, {"l>51", 0}, {"d<7", 1}, {"d<6", 0},
        {"d>5", 1}, {"d>6", 0}, {"l<0", 0}, {"l>0", 1}, {"d<0", 0}, {"d>0", 1}, {"l<9999", 1}, {"l>9999", 0}, {"d<9999", 1},
        {"t3", 1}, {"t2", 0}, {"t4", 0}, {"a2", 1}, {"a1", 0}, {"a3", 0}, {"w1<99", 0}, {"w3>0", 0}, {"w2<12", 1},
        {"w2<11", 0}, {"w2<10", 0}, {"w2>10", 1}, {"w2>11", 0}, {"w2>12", 0}, {"l<0051", 1}, {"w2>09", 1}};
    for (Object[] row : told) {
      E.due("T3 " + row[0], holds((String) row[0], 11), (Integer) row[1]);
      E.due("T3 !" + row[0], holds("!" + row[0], 11), 1 - (Integer) row[1]);
    }
    int[][] words = {{-99, 1, 0}, {-1, 1, 0}, {0, 0, 0}, {1, 0, 1}, {99, 0, 1}};
    for (int[] w : words) {
      E.due("T3 below 0: " + w[0], holds("w2<0", w[0]), w[1]);
      E.due("T3 above 0: " + w[0], holds("w2>0", w[0]), w[2]);
    }
    E.due("T3 above 98", holds("w2>98", 99), 1);
    E.due("T3 above 99", holds("w2>99", 99), 0);
    E.due("T3 below 99", holds("w2<99", 99), 0);
    WrongsDesk d = Expect.desk(0);
    d.matter(0, 0, 0, 0, 0);
    Expect.law(d, -1, 0, "reach d<1&l<1&!d>0&!l>0");
    E.due("T3 no day, no loss", d.reach(0, 0), 1);
    E.due("T3 one day", d.reach(0, 1), 0);
  }

  /** & goes ahead of |, and what stands in ( ) ahead of both; t3 holds, t2 does not. */
  private static void joined() {
    for (int bits = 0; bits < 16; bits++) {
      boolean[] v = {(bits & 1) != 0, (bits & 2) != 0, (bits & 4) != 0, (bits & 8) != 0};
      String[] t = new String[4];
      for (int i = 0; i < 4; i++) {
        t[i] = v[i] ? "t3" : "t2";
      }
      is(t[0] + "|" + t[1] + "&" + t[2], v[0] || v[1] && v[2]);
      is(t[0] + "&" + t[1] + "|" + t[2], v[0] && v[1] || v[2]);
      is(t[0] + "&(" + t[1] + "|" + t[2] + ")", v[0] && (v[1] || v[2]));
      is("(" + t[0] + "|" + t[1] + ")&" + t[2], (v[0] || v[1]) && v[2]);
      is(t[0] + "|" + t[1] + "&" + t[2] + "|" + t[3], v[0] || v[1] && v[2] || v[3]);
      is(t[0] + "&" + t[1] + "|" + t[2] + "&" + t[3], v[0] && v[1] || v[2] && v[3]);
      is(t[0] + "|" + t[1] + "&" + t[2] + "&" + t[3], v[0] || v[1] && v[2] && v[3]);
      is(t[0] + "&" + t[1] + "&" + t[2] + "|" + t[3], v[0] && v[1] && v[2] || v[3]);
      is("!" + t[0] + "&" + t[1], !v[0] && v[1]);
      is("!" + t[0] + "|" + t[1], !v[0] || v[1]);
      is("!(" + t[0] + "&" + t[1] + ")|" + t[2], !(v[0] && v[1]) || v[2]);
      is("!!" + t[0] + "&!!!" + t[1], v[0] && !v[1]);
      is(t[0] + "|(" + t[1] + "|(" + t[2] + "&!(" + t[3] + "&" + t[0] + ")))", v[0] || v[1] || v[2] && !(v[3] && v[0]));
      String six = t[0] + "|t3&(" + t[1] + "&t3|t3&(" + t[2] + "|t3&(" + t[3] + "|t3&(t2|t3&(t2|t3&(t2|t3&" + t[0] + "))))))";
      is(six, v[0] || v[1] || v[2] || v[3]);
    }
  }

  private static void is(String e, boolean due) {
    E.due("T3 " + e, holds(e, 11), due ? 1 : 0);
  }

  /** The word of the latest, as known on the day that is asked. */
  private static void words() {
    WrongsDesk d = Expect.desk(5);
    d.matter(0, 0, 0, 0, 0);
    Expect.law(d, -1, 0, "reach w1>5");
    d.file(0, 1, 3, 6);
    E.due("T3 the day ahead", d.reach(0, 4), 0);
    E.due("T3 as known", d.reach(0, 5), 1);
    d.file(0, 1, 3, 5);
    E.due("T3 of two on one day the last entered", d.reach(0, 5), 0);
    d.file(0, 1, 2, 9);
    E.due("T3 done ahead, though entered last", d.reach(0, 5), 0);
    d.pass(2);
    d.file(0, 1, 7, 9);
    E.due("T3 done last", d.reach(0, 7), 1);
    E.due("T3 not known yet", d.reach(0, 6), 0);
    Expect.law(d, -1, 0, "reach a2");
    d.file(0, 2, 0, 0);
    E.due("T3 on file the day it is entered", d.reach(0, 7), 1);
    E.due("T3 not the day ahead, though done long ago", d.reach(0, 6), 0);
  }

  private static void lawOfTheDay() {
    WrongsDesk d = Expect.desk(20);
    Expect.law(d, 0, 5, "owe 5 1");
    Expect.law(d, 0, 6, "owe 6 1");
    for (int day = 4; day <= 7; day++) {
      d.matter(0, 0, 0, day, 0);
    }
    E.due("T3 happened ahead of all laws", d.owes(0, 20), 0);
    E.due("T3 happened on the first day of one", d.owed(1, 20, 0, 0), 5);
    E.due("T3 happened on the first day of the next", d.owed(2, 20, 0, 0), 6);
    E.due("T3 happened behind it", d.owed(3, 20, 0, 0), 6);
    E.due("T3 asked on the day itself", d.owed(1, 5, 0, 0), 5);
    Expect.law(d, 0, 4, "owe 4 1");
    E.due("T3 a law told later", d.owed(0, 20, 0, 0), 4);
    E.due("T3 which is not the latest in force there", d.owed(1, 20, 0, 0), 5);
  }

  private static void due() {
    WrongsDesk d = Expect.desk(20);
    Expect.law(d, 0, 0, "owe 1 0;owe 2 1;owe 3 9999");
    d.feast(8);
    d.matter(0, 0, 0, 5, 0);
    d.matter(0, 0, 0, 7, 0);
    d.matter(0, 0, 0, 8, 0);
    int[][] due = {{5, 7}, {7, 9}, {8, 9}};
    for (int m = 0; m < due.length; m++) {
      E.due("T3 due on the day itself, though off", d.owed(m, 20, 0, 1), due[m][0]);
      E.due("T3 due on the next working day", d.owed(m, 20, 1, 1), due[m][1]);
    }
    // 1999 weeks and four days behind day 7, and a feast more
    E.due("T3 due far beyond 9999", d.owed(1, 20, 2, 1), 7 + 1999 * 7 + 4 + 3);
  }

  private static void wrongs() {
    WrongsDesk d = Expect.desk(20);
    Expect.law(d, 0, 0, "owe 1 3");
    for (int m = 0; m < 4; m++) {
      d.matter(0, 0, 0, 0, 0);
    }
    E.due("T3 ahead of due", d.owed(0, 2, 0, 2), 0);
    E.due("T3 on due", d.owed(0, 3, 0, 2), 0);
    E.due("T3 the day behind", d.owed(0, 4, 0, 2), 2);
    d.file(0, 1, 3, 0);
    d.file(1, 1, 4, 0);
    d.file(2, 2, 0, 0);
    d.file(3, 1, 4, 0);
    d.file(3, 1, 3, 0);
    E.due("T3 done on due", d.owed(0, 20, 0, 2), 0);
    E.due("T3 done the day behind", d.owed(1, 20, 0, 2), 1);
    E.due("T3 another sort", d.owed(2, 20, 0, 2), 2);
    E.due("T3 the first counts", d.owed(3, 20, 0, 2), 0);
    E.due("T3 not known yet", d.owed(0, 19, 0, 2), 2);
    d.papers(1, 0, 0, 1);
    d.papers(2, 0, 0, 1);
    E.due("T3 late, though torn", d.owed(1, 20, 0, 2), 1);
    E.due("T3 open, as it is torn", d.owed(2, 20, 0, 2), 3);
    E.due("T3 it lacks, as known the day ahead", d.owed(2, 19, 0, 2), 2);
  }

  /** As many as a law can have; then one that owes less, so that nothing of the ten is left. */
  private static void tenOwed() {
    WrongsDesk d = Expect.desk(20);
    Expect.law(d, 0, 0, "owe 1 0;owe 2 0;owe 3 0;owe 4 0;owe 5 0;owe 6 0;owe 7 0;owe 8 0;owe 9 0;owe 1 0");
    Expect.law(d, 1, 0, "owe 1 0 if t9;owe 2 0");
    d.matter(0, 0, 0, 0, 9);
    d.matter(0, 1, 0, 0, 9);
    d.ask(0);
    d.ask(1);
    E.due("T3 ten are owed", d.owes(0, 20), 10);
    E.due("P26 the tenth", d.owed(0, 20, 9, 0), 1);
    E.due("P26 its clause", d.owed(0, 20, 9, 3), 9);
    E.due("P26 none behind it", d.owed(0, 20, 10, 0), -5);
    E.due("P25 one is owed", d.owes(1, 20), 1);
    E.due("P26 its clause", d.owed(1, 20, 0, 3), 1);
    E.due("P26 none behind it", d.owed(1, 20, 1, 0), -5);
    d.file(1, 2, 0, 0);
    E.due("P25 the ten", d.owes(0, 20), 10);
    E.due("P11 nothing wrong", d.find(1, 0), -3);
    E.due("P11 ten wrong", d.find(0, 0), 10);
    E.due("P27 at most the loss", d.good(0, 20), 9);
    E.due("P27 nothing", d.good(1, 20), 0);
  }
}
