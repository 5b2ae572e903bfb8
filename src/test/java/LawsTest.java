/** Promises 22 to 26: THE TEXT, laws and their faults, what is owed and wrong. */
public final class LawsTest {
  private static final Expect E = new Expect("LawsTest");

  public static void main(String[] args) {
    feeding();
    faults();
    within();
    refusals();
    inForce();
    numbers();
    tests();
    owedOnes();
    wrongs();
    E.close();
  }

  private static void feeding() {
    WrongsDesk d = new WrongsDesk();
    E.due("feed: n", d.feed(0, -1), -2);
    E.due("feed: n", d.feed(0, 5), -2);
    E.due("feed none", d.feed(65, 0), 0);
    E.due("feed four", d.feed('f' << 24 | 'e' << 16 | 'w' << 8 | ' ', 4), 4);
    E.due("feed the lowest two, the highest first", d.feed(0x7f7f0000 | '3' << 8 | '7', 2), 6);
    E.due("bytes", d.count(6), 6);
    E.due("law", d.law(-1, 0), 0);
    E.due("few", d.lawful(-1, 0, 8), 37);
    for (int n = 4; n <= 156; n += 4) {
      d.feed(0, 4);
    }
    E.due("feed", d.feed(0, 3), 159);
    E.due("feed: full", d.feed(0, 2), -4);
    E.due("nothing came", d.count(6), 159);
    E.due("feed: none fits", d.feed(0, 0), 159);
    E.due("feed: bad ahead of full", d.feed(0, 5), -2);
    E.due("feed", d.feed(0, 1), 160);
    E.due("feed: full", d.feed(0, 1), -4);
    E.due("feed none", d.feed(0, 0), 160);
  }

  /** The place of the fault (-1: it is a law), whatever stood ahead. */
  private static int fault(String text) {
    WrongsDesk d = new WrongsDesk();
    int answer = Expect.law(d, 3, 7, text);
    E.due("text is empty behind " + text, d.count(6), 0);
    E.due("laws behind " + text, d.count(5), answer == 0 ? 1 : 0);
    return answer >= 0 ? -1 : -10 - answer;
  }

  private static void faults() {
    String[] laws = {"owe 1 2", "owe 9 0000", "owe 1 9999 if t0", "owe 1 2 unless a1", "reach t9", "limit 0", "answer 9999",
        "scale 0 1", "scale 0099 9000", "cap 12", "rate 3", "few 0", "few 1;few 2", "reach !t1&a2|w3<0|w4>99&l<0&d>9999",
        "reach (t1)", "reach !(!t1|t2)&t3", "reach l>1234|d<0001", "cap 1;cap 2;cap 3;cap 4;cap 5;cap 6;cap 7;cap 8;cap 9;cap 10"};
    for (String text : laws) {
      E.due("fault of " + text, fault(text), -1);
    }
    Object[][] told = {{"", 0}, {" ", 0}, {"x", 0}, {"o", 1}, {"ow ", 2}, {"owe", 3}, {"owe1", 3}, {"owe  ", 4}, {"owe 0", 4},
        {"owe 12", 5}, {"owe 1", 5}, {"owe 1 ", 6}, {"owe 1 x", 6}, {"owe 1 12345", 10}, {"owe 1 2 ", 8}, {"owe 1 2 x", 8},
        {"owe 1 2 i ", 9}, {"owe 1 2 if", 10}, {"owe 1 2 ift1", 10}, {"owe 1 2 if ", 11}, {"owe 1 2 u", 9},
        {"owe 1 2 unles t1", 13}, {"owe 1 2 if  t1", 11}, {"owe 1 2 if t1 ", 13}, {"owe 1 2;", 8}, {"owe 1 2;;", 8},
        {"owe 1 2; few 1", 8}, {";few 1", 0}, {"r", 1}, {"ri", 1}, {"re", 2}, {"rat 1", 3}, {"react 1", 4}, {"reach", 5},
        {"reach ", 6}, {"reach 1", 6}, {"limit", 5}, {"limit x", 6}, {"limi", 4}, {"answer", 6}, {"anser", 3}, {"scale 1", 7},
        {"scale 1 ", 8}, {"scale 1 0", 8}, {"scale 1 12345", 12}, {"scale 12345 1", 10}, {"scale 1 1 1", 9}, {"scal 1", 4},
        {"cap -1", 4}, {"capp", 3}, {"rate 1.", 6}, {"few 1 ", 5}, {"Few 1", 0}, {"few\t1", 3}, {"reach t", 7}, {"reach tt", 7},
        {"reach t12", 8}, {"reach a0", 7}, {"reach a", 7}, {"reach a12", 8}, {"reach w0", 7}, {"reach w1", 8}, {"reach w1<", 9},
        {"reach w1<-1", 9}, {"reach w1<123", 11}, {"reach w1=1", 8}, {"reach l", 7}, {"reach l1", 7}, {"reach l<", 8},
        {"reach l<12345", 12}, {"reach d>99999", 12}, {"reach d>x", 8}, {"reach t1&", 9}, {"reach t1&&", 9}, {"reach t1||", 9},
        {"reach t1)", 8}, {"reach (t1", 9}, {"reach (t1;", 9}, {"reach ()", 7}, {"reach !", 7}, {"reach !&", 7},
        {"reach (t1))", 10}, {"reach t1 & t2", 8}, {"reach t1!t2", 8}, {"reach t1(t2)", 8}, {"reach t1;reach", 14},
        {"cap 1;cap 2;cap 3;cap 4;cap 5;cap 6;cap 7;cap 8;cap 9;cap 10;", 60},
        {"cap 1;cap 2;cap 3;cap 4;cap 5;cap 6;cap 7;cap 8;cap 9;cap 10;cap 11", 60}, {"few 1\u00e9", 5}, {"\u0000", 0},
        {"few \u00b1", 4}, {"few :", 4}, {"few /", 4}, {"few 1:", 5}, {"few 1/", 5}, {"reach t:", 7}, {"reach a:", 7},
        {"owe : 1", 4}, {"scale 1 :", 8}, {"scale 1 /", 8}, {"reach w1<9:", 10}, {"few 1:few 1", 5}};
    for (Object[] row : told) {
      E.due("fault of " + row[0], fault((String) row[0]), (Integer) row[1]);
    }
    StringBuilder longest = new StringBuilder("reach t1");
    while (longest.length() < 158) {
      longest.append(longest.length() % 2 == 0 ? "|t2" : "&a3");
    }
    E.due("a long one: " + longest.length(), fault(longest.toString()), -1);
    E.due("a whole text that ends too early", fault("reach t1" + "|t2".repeat(50) + "&t"), 160);
    E.due("a whole text that ends too early", fault("reach t1" + "|t2".repeat(50) + "&!"), 160);
    E.due("a whole text", fault("reach !!t1" + "|t2".repeat(50)), -1);
  }

  private static void within() {
    E.due("six (", fault("reach ((((((t1))))))"), -1);
    E.due("seven (", fault("reach (((((((t1)))))))"), 12);
    E.due("six !", fault("reach !!!!!!t1"), -1);
    E.due("seven !", fault("reach !!!!!!!t1"), 12);
    E.due("six mixed", fault("reach !(!(!(t1|t2)))"), -1);
    E.due("( within six", fault("reach !(!(!((t1|t2))))"), 12);
    E.due("! within six", fault("reach (!(!(!(t1))))"), 12);
    E.due("one behind another is not within it", fault("reach !t1&!t1&!t1&!t1&!t1&!t1&!t1&(t1)&(!(!(!t1|t3)))"), -1);
    E.due("one behind another is not within it", fault("reach (((((t1)|(t2))&(t3|!t4)))|(((((t1))))))"), -1);
  }

  private static void refusals() {
    WrongsDesk d = new WrongsDesk();
    Expect.text(d, "x");
    E.due("law: body", d.law(6, 10000), -1);
    E.due("law: body", d.law(-2, 0), -1);
    E.due("law: day", d.law(0, 10000), -2);
    E.due("law: day", d.law(0, -1), -2);
    E.due("the text stays", d.count(6), 1);
    E.due("law: fault", d.law(0, 0), -10);
    E.due("the text is empty", d.count(6), 0);
    for (int n = 0; n < 12; n++) {
      E.due("law", Expect.law(d, n % 7 - 1, 9999, "few 2"), n);
    }
    Expect.text(d, "x");
    E.due("law: bad ahead of full", d.law(0, -1), -2);
    E.due("law: full, ahead of the fault", d.law(0, 0), -4);
    E.due("the text stays", d.count(6), 1);
    E.due("laws", d.count(5), 12);
  }

  private static void inForce() {
    WrongsDesk d = new WrongsDesk();
    int[] from = {5, 3, 5, 9, 5};
    for (int i = 0; i < from.length; i++) {
      Expect.law(d, i == 4 ? 0 : -1, from[i], "few " + i);
    }
    int[] due = {-1, -1, -1, 1, 1, 2, 2, 2, 2, 3};
    for (int day = 0; day < due.length; day++) {
      E.due("the office's on " + day, d.lawful(-1, day, 0), due[day]);
    }
    E.due("the last day", d.lawful(-1, 9999, 8), 3);
    E.due("a body's", d.lawful(0, 5, 0), 4);
    E.due("another body's", d.lawful(1, 5, 0), -1);
    E.due("lawful: body", d.lawful(6, 5, 0), -5);
    E.due("lawful: body", d.lawful(-2, 5, 0), -5);
    E.due("lawful: day", d.lawful(0, -1, 0), -5);
    E.due("lawful: day", d.lawful(0, 10000, 0), -5);
    E.due("lawful: what", d.lawful(0, 5, 9), -5);
    E.due("lawful: what", d.lawful(0, 5, -1), -5);
    E.due("lawful: what, without a law", d.lawful(1, 5, 9), -5);
  }

  private static void numbers() {
    WrongsDesk d = new WrongsDesk();
    int[] without = {-1, 0, 9999, 30, 0, 1, 9999, 0, 1};
    for (int what = 0; what < 9; what++) {
      E.due("without a law " + what, d.lawful(2, 0, what), without[what]);
    }
    Expect.law(d, 2, 0, "owe 1 1");
    int[] bare = {0, 1, 9999, 30, 0, 1, 9999, 0, 1};
    for (int what = 0; what < 9; what++) {
      E.due("without clauses " + what, d.lawful(2, 0, what), bare[what]);
    }
    Expect.law(d, 2, 0, "limit 1;answer 22;scale 333 4444;cap 5;owe 1 1;owe 1 1;rate 0066;few 7;limit 8;scale 9 1");
    int[] last = {1, 2, 8, 22, 9, 1, 5, 66, 7};
    for (int what = 0; what < 9; what++) {
      E.due("the last counts " + what, d.lawful(2, 0, what), last[what]);
    }
    Expect.law(d, 2, 0, "limit 5;cap 6;fe");
    E.due("a faulty one leaves nothing", d.lawful(2, 0, 2), 8);
    Expect.law(d, 2, 0, "few 3");
    E.due("a faulty one leaves nothing", d.lawful(2, 0, 2), 9999);
  }

  /** Whether an E holds of a matter of topic 3 and loss 50 that happened on day 4, asked on day 10. */
  private static int holds(String e) {
    WrongsDesk d = Expect.desk(10);
    d.matter(0, 0, 3, 4, 50);
    d.file(0, 2, 7, 5);
    d.file(0, 2, 9, -5);
    d.file(0, 4, 9, 20);
    d.file(0, 4, 8, 30);
    d.pass(1);
    d.file(0, 5, 9, 1);
    Expect.law(d, -1, 0, "reach " + e);
    Expect.law(d, 0, 0, "owe 1 1 if " + e + ";owe 2 1 unless " + e);
    E.due("one of if and unless " + e, d.owes(0, 10), 1);
    E.due("if and unless " + e, d.owed(0, 10, 0, 0), d.reach(0, 10) == 1 ? 1 : 2);
    return d.reach(0, 10);
  }

  private static void tests() {
    String[] hold = {"t3", "a2", "a4", "w2<0", "w4>19", "w4<21", "l<51", "l>49", "d<7", "d>5", "!t4", "!a5", "!!t3", "t3|t4",
        "t4|t3", "t3&a2", "!(t3&t4)", "t4&t4|t3", "t3|t4&t4", "(t3|t4)&t3", "!t4&t3", "!(t4|a5)", "t4|t4|t3&a2&!a5|t4",
        "t3&(t4|(a2&(t4|!t4)))"};
    String[] fail = {"t2", "t4", "a1", "a5", "w2>0", "w2<5&w2>5", "w4>20", "w4<20", "w1<99", "w1>0", "w5>0", "l<50", "l>50",
        "d<6", "d>6", "!t3", "!!t4", "t4|t5", "t3&t4", "t4&t3", "!(t3|t4)", "(t3|t4)&t4", "t4&t3|t4", "!t3|t4", "t4&t3&t3"};
    for (String e : hold) {
      E.due(e, holds(e), 1);
    }
    for (String e : fail) {
      E.due(e, holds(e), 0);
    }
  }

  private static void owedOnes() {
    WrongsDesk d = Expect.desk(20);
    d.matter(0, 1, 0, 4, 50);
    E.due("owes: none", d.owes(1, 10), -1);
    E.due("owes: ahead", d.owes(0, 3), -2);
    E.due("owes: above", d.owes(0, 10000), -2);
    E.due("owes without a law", d.owes(0, 10), 0);
    Expect.law(d, 1, 5, "owe 9 1");
    E.due("the law of the day on which it happened", d.owes(0, 10), 0);
    Expect.law(d, -1, 0, "owe 8 1");
    E.due("the office's does not bind the body", d.owes(0, 10), 0);
    Expect.law(d, 1, 4, "few 2;owe 3 0;cap 4;owe 2 1 if d>6;owe 2 2 unless a7;owe 5 9999");
    E.due("owes", d.owes(0, 10), 3);
    E.due("owes, later", d.owes(0, 11), 4);
    int[][] due = {{3, 4, 2, 0}, {2, 8, 2, 2}, {5, 0, 0, 3}};
    d.feast(7);
    due[1][1] = 9;
    int at = 4;
    for (int n = 0; n < 9999; ) {
      at++;
      n += at % 7 < 5 && at != 7 ? 1 : 0;
    }
    due[2][1] = at;
    for (int i = 0; i < 3; i++) {
      for (int what = 0; what < 4; what++) {
        E.due("owed " + i + " " + what, d.owed(0, 10, i, what), due[i][what]);
      }
    }
    d.file(0, 7, 20, 0);
    E.due("as known on the day asked", d.owes(0, 19), 4);
    E.due("as known on the day asked", d.owes(0, 20), 3);
    E.due("owed: i", d.owed(0, 10, 3, 0), -5);
    E.due("owed: i", d.owed(0, 10, -1, 0), -5);
    E.due("owed: what", d.owed(0, 10, 0, 4), -5);
    E.due("owed: what", d.owed(0, 10, 0, -1), -5);
    E.due("owed: matter", d.owed(1, 10, 0, 0), -5);
    E.due("owed: day ahead", d.owed(0, 3, 0, 0), -5);
    E.due("owed: day above", d.owed(0, 10000, 0, 0), -5);
  }

  private static void wrongs() {
    WrongsDesk d = Expect.desk(10);
    Expect.law(d, 0, 0, "owe 1 2;owe 2 2");
    d.matter(0, 0, 0, 0, 50);
    E.due("on due", d.owed(0, 2, 0, 2), 0);
    E.due("behind due", d.owed(0, 3, 0, 2), 2);
    d.papers(0, 0, 0, 1);
    E.due("torn later", d.owed(0, 9, 0, 2), 2);
    E.due("torn", d.owed(0, 10, 0, 2), 3);
    d.file(0, 1, 3, 0);
    d.file(0, 2, 2, 0);
    E.due("entered later", d.owed(0, 9, 0, 2), 2);
    E.due("late, torn or not", d.owed(0, 10, 0, 2), 1);
    E.due("in time", d.owed(0, 10, 1, 2), 0);
    d.pass(1);
    d.file(0, 1, 1, 0);
    d.file(0, 2, 9, 0);
    E.due("the first counts", d.owed(0, 11, 0, 2), 0);
    E.due("as known", d.owed(0, 10, 0, 2), 1);
    E.due("the first counts", d.owed(0, 11, 1, 2), 0);
  }
}
