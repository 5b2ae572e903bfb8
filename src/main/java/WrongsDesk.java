/**
 * An advocate's desk: the numbers in capitals are those of the document's terms. Every limit stands
 * in the document, so all rows are made once, in constructors, and no call makes more than one
 * MATTER or LAW, or the ACTS that it enters.
 */
public final class WrongsDesk {
    public static final int NONE = -1, BAD = -2, STATE = -3, FULL = -4;
    public static final long NO = Long.MIN_VALUE;

    private static final int NOTHING = -11, CAST = -12, PLACE = -13, SIZE = -14;
    private static final int NONE_SUCH = -5, NOT_FILED = -100, FAULTY = -10;

    private static final int LAST_DAY = 9999, LAST_TOPIC = 9, LAST_LOSS = 9999, LAST_AWARD = 99999;
    private static final int LAST_SORT = 9, LAST_WORD = 99, LAST_GRADE = 9, LAST_WORK = 9;
    private static final int BODIES = 6, PERSONS = 20, MATTERS = 40, ACTS = 150, PAPERS = 20;
    private static final int LAWS = 12, TEXT = 160, CLAUSES = 10, CAUSES = 12, HANDS = 6, WEEK = 7;
    private static final int FEASTS = 20, TAPES = 6, ITEMS = 80, TRACE = 20;

    private static final int OFFICE = -1, ANY_BODY = -1;
    private static final int MATTER = 0, OUT = 1, ASKED = 2, FOUND = 3, SETTLED = 4, JOINED = 5, WATCHED = 6;
    private static final int LATE = 1, LACKS = 2, OPEN = 3;
    private static final int NO_ROW = -1, BYTES = 0, SHORTS = 1, INTS = 2, LONGS = 3;

    private final Days days = new Days();
    private final int[] lets = new int[PERSONS];
    private int persons = 0;
    private final Matter[] matters = new Matter[MATTERS];
    private int matterCount = 0;
    private int acts = 0;
    private final LawReader reader = new LawReader();
    private final Bench bench = new Bench(days);
    private final Causes causes = new Causes();
    private final Report shown = new Report();
    private int readings = 0;
    private final Week planned = new Week();
    private final Deeds deeds = new Deeds();
    private final Tape[] tapes = new Tape[TAPES];

    public WrongsDesk() {
        for (int i = 0; i < TAPES; i++) {
            tapes[i] = new Tape();
        }
    }

    // ---- days, people

    public int pass(int n) {
        if (n < 1 || n > 400 || days.today + n > LAST_DAY) {
            return BAD;
        }
        days.today += n;
        return days.today;
    }

    public int feast(int day) {
        if (!isDay(day)) {
            return BAD;
        }
        if (days.isOff(day)) {
            return STATE;
        }
        return days.addFeast(day) ? days.feastCount : FULL;
    }

    public int working(int day, int n) {
        if (!isDay(day) || n < 0 || n > 400) {
            return BAD;
        }
        return days.workingDay(day, n);
    }

    public int person(int let) {
        if (!isFlag(let)) {
            return BAD;
        }
        if (persons >= PERSONS) {
            return FULL;
        }
        lets[persons] = let;
        persons++;
        return persons - 1;
    }

    public int let(int person, int is) {
        if (!isPerson(person)) {
            return NONE;
        }
        if (!isFlag(is)) {
            return BAD;
        }
        int was = lets[person];
        lets[person] = is;
        return was;
    }

    // ---- matters

    public int matter(int person, int body, int topic, int day, int loss) {
        if (!isPerson(person) || !isBody(body)) {
            return NONE;
        }
        if (topic < 0 || topic > LAST_TOPIC || day < 0 || day > days.today || loss < 0 || loss > LAST_LOSS) {
            return BAD;
        }
        if (matterCount >= MATTERS) {
            return FULL;
        }
        Matter made = new Matter(matterCount, person, body, topic, day, loss);
        matters[matterCount] = made;
        matterCount++;
        return made.number;
    }

    public int of(int matter, int what) {
        Matter m = matterAt(matter);
        if (m == null) {
            return NONE_SUCH;
        }
        switch (what) {
            case 0: return m.kind;
            case 1: return m.person;
            case 2: return m.body;
            case 3: return m.topic;
            case 4: return m.happened;
            case 5: return m.loss;
            case 6: return m.asked;
            case 7: return m.award;
            case 8: return m.joinedTo;
            case 9: return m.torn;
            default: return NONE_SUCH;
        }
    }

    public int out(int matter) {
        Matter m = matterAt(matter);
        if (m == null) {
            return NONE;
        }
        if (m.kind != MATTER || bench.inReach(m, days.today)) {
            return STATE;
        }
        m.kind = OUT;
        return 1;
    }

    public int ask(int matter) {
        Matter m = matterAt(matter);
        if (m == null) {
            return NONE;
        }
        if (m.kind != MATTER || !bench.inReach(m, days.today)) {
            return STATE;
        }
        m.kind = ASKED;
        m.asked = days.today;
        return bench.endOf(m);
    }

    public int find(int matter, int award) {
        Matter m = matterAt(matter);
        if (m == null) {
            return NONE;
        }
        if (award < 0 || award > LAST_AWARD) {
            return BAD;
        }
        if (m.kind != ASKED) {
            return STATE;
        }
        int wrongs = bench.lateOrLacking(m, days.today);
        if (wrongs == 0) {
            return STATE;
        }
        m.kind = FOUND;
        m.award = award;
        return wrongs;
    }

    public int settle(int matter) {
        Matter m = matterAt(matter);
        if (m == null) {
            return NONE;
        }
        if (m.kind != ASKED) {
            return STATE;
        }
        m.kind = SETTLED;
        return 1;
    }

    public int join(int matter, int to) {
        Matter m = matterAt(matter);
        Matter other = matterAt(to);
        if (m == null || other == null) {
            return NONE;
        }
        if (matter == to) {
            return BAD;
        }
        if (m.kind != MATTER || other.kind == OUT || other.kind == JOINED) {
            return STATE;
        }
        m.kind = JOINED;
        m.joinedTo = to;
        return 1;
    }

    public int watch(int matter, int sort, int day) {
        Matter m = matterAt(matter);
        if (m == null) {
            return NONE;
        }
        if (!isSort(sort) || !isDay(day)) {
            return BAD;
        }
        if (m.kind != FOUND) {
            return STATE;
        }
        m.kind = WATCHED;
        m.promise(sort, day, acts);
        return 1;
    }

    public int reach(int matter, int day) {
        Matter m = matterAt(matter);
        if (m == null) {
            return NONE;
        }
        if (!m.hasDay(day)) {
            return BAD;
        }
        return bench.inReach(m, day) ? 1 : 0;
    }

    public int end(int matter, int what) {
        Matter m = matterAt(matter);
        if (m == null || !isFlag(what)) {
            return NONE;
        }
        if (m.kind != ASKED) {
            return STATE;
        }
        int last = bench.endOf(m);
        if (what == 0) {
            return last;
        }
        return days.today > last ? 1 : 0;
    }

    public int kept(int matter) {
        Matter m = matterAt(matter);
        if (m == null) {
            return NONE;
        }
        return m.kind == WATCHED ? m.promiseState(days.today) : STATE;
    }

    // ---- files

    public int file(int matter, int sort, int day, int word) {
        Matter m = matterAt(matter);
        return m == null ? NONE : enter(m, sort, day, word);
    }

    public int papers(int matter, int tape, int i, int n) {
        Matter m = matterAt(matter);
        Tape t = tapeAt(tape);
        if (m == null || t == null) {
            return NONE;
        }
        if (n < 1 || n > PAPERS) {
            return BAD;
        }
        if (t.sort != NO_ROW && t.sort != INTS) {
            return CAST;
        }
        for (int came = 0; came < n; came++) {
            long from = i + 3L * came;
            if (!t.holds(from, 3)) {
                m.tear(days.today);
                return came;
            }
            int place = (int) from;
            int sort = (int) t.valueAt(place);
            int day = (int) t.valueAt(place + 1);
            int word = (int) t.valueAt(place + 2);
            if (enter(m, sort, day, word) < 0) {
                return came;
            }
        }
        return n;
    }

    public int patch(int matter) {
        Matter m = matterAt(matter);
        if (m == null) {
            return NONE;
        }
        if (m.torn < 0) {
            return STATE;
        }
        m.torn = -1;
        return 1;
    }

    public int filed(int matter, int sort, int known, int what) {
        Matter m = matterAt(matter);
        if (m == null || !isSort(sort) || !isDay(known) || what < 0 || what > 3) {
            return NOT_FILED;
        }
        if (what == 3) {
            return m.howMany(sort, known);
        }
        Act asked = what == 2 ? m.firstOf(sort, known) : m.latestOf(sort, known);
        if (asked == null) {
            return NOT_FILED;
        }
        return what == 1 ? asked.word : asked.day;
    }

    // ---- laws

    public int feed(int bytes, int n) {
        if (n < 0 || n > 4) {
            return BAD;
        }
        return reader.append(bytes, n) ? reader.length : FULL;
    }

    public int law(int body, int day) {
        if (!isBody(body) && body != OFFICE) {
            return NONE;
        }
        if (!isDay(day)) {
            return BAD;
        }
        if (bench.lawCount >= LAWS) {
            return FULL;
        }
        boolean isLaw = reader.readLaw();
        reader.length = 0;
        return isLaw ? bench.adopt(reader.handOver(), body, day) : FAULTY - reader.place;
    }

    public int lawful(int body, int day, int what) {
        if (!isBody(body) && body != OFFICE || !isDay(day)) {
            return NONE_SUCH;
        }
        Law law = bench.lawOn(body, day);
        switch (what) {
            case 0: return bench.lawNumber(body, day);
            case 1: return law.owes;
            case 2: return law.limit;
            case 3: return law.answer;
            case 4: return law.scale;
            case 5: return law.scaleDays;
            case 6: return law.cap;
            case 7: return law.rate;
            case 8: return law.few;
            default: return NONE_SUCH;
        }
    }

    public int owes(int matter, int day) {
        Matter m = matterAt(matter);
        if (m == null) {
            return NONE;
        }
        return m.hasDay(day) ? bench.weigh(m, day) : BAD;
    }

    public int owed(int matter, int day, int i, int what) {
        Matter m = matterAt(matter);
        if (m == null || !m.hasDay(day)) {
            return NONE_SUCH;
        }
        if (i < 0 || i >= bench.weigh(m, day)) {
            return NONE_SUCH;
        }
        switch (what) {
            case 0: return bench.sorts[i];
            case 1: return bench.dues[i];
            case 2: return bench.wrongs[i];
            case 3: return bench.clauses[i];
            default: return NONE_SUCH;
        }
    }

    // ---- harm, like ones, causes

    public int good(int matter, int day) {
        Matter m = matterAt(matter);
        if (m == null) {
            return NONE;
        }
        return m.hasDay(day) ? bench.goodOf(m, day) : BAD;
    }

    public int alike(int a, int b) {
        Matter one = matterAt(a);
        Matter other = matterAt(b);
        if (one == null || other == null) {
            return NONE;
        }
        if (a == b) {
            return BAD;
        }
        if (!one.isFound() || !other.isFound()) {
            return STATE;
        }
        weighWrongs();
        return areAlike(one, other) ? 1 : 0;
    }

    public int unlike(int what) {
        if (what < 0 || what > 2) {
            return NONE;
        }
        weighWrongs();
        int twos = 0;
        for (int a = 0; a < matterCount; a++) {
            for (int b = a + 1; b < matterCount; b++) {
                if (areAlike(matters[a], matters[b]) && matters[a].award != matters[b].award) {
                    if (what > 0) {
                        return what == 1 ? a : b;
                    }
                    twos++;
                }
            }
        }
        return what == 0 ? twos : NONE;
    }

    public int cause(int body, int sort, int wrong) {
        if (!isBody(body) && body != ANY_BODY) {
            return NONE;
        }
        if (sort < 0 || sort > LAST_SORT || wrong < 0 || wrong > OPEN) {
            return BAD;
        }
        return causes.add(body, sort, wrong) ? causes.size - 1 : FULL;
    }

    public int reaches(int cause, int what) {
        if (cause < 0 || cause >= causes.size || !isFlag(what)) {
            return NONE;
        }
        int reached = 0;
        for (int i = 0; i < matterCount; i++) {
            Matter m = matters[i];
            if (m.isFound() == (what == 0)) {
                bench.weigh(m, days.today);
                reached += causes.touches(cause, m, bench) ? 1 : 0;
            }
        }
        return reached;
    }

    public int fewest() {
        causes.forget();
        for (int i = 0; i < matterCount; i++) {
            if (matters[i].isFound()) {
                bench.weigh(matters[i], days.today);
                causes.note(matters[i], bench);
            }
        }
        return causes.leastCover();
    }

    // ---- reports, hands, weeks

    public int report(int columns) {
        if (columns < 0 || columns > 7) {
            return BAD;
        }
        shown.make(matters, matterCount, columns);
        shown.hide(lets, bench.lawOn(OFFICE, days.today).few);
        return shown.size;
    }

    public int row(int i, int what) {
        if (i < 0 || i >= shown.size || what < 0 || what > 3) {
            return NONE;
        }
        if (shown.hidden[i]) {
            return STATE;
        }
        switch (what) {
            case 0: return shown.counts[i];
            case 1: return shown.keys[i] / 100;
            case 2: return shown.keys[i] / 10 % 10;
            default: return shown.keys[i] % 10;
        }
    }

    public int grade(int hand, int matter, int g) {
        Matter m = matterAt(matter);
        if (!isHand(hand) || m == null) {
            return NONE;
        }
        if (g < 0 || g > LAST_GRADE) {
            return BAD;
        }
        if (m.grades[hand] < 0) {
            readings++;
        }
        m.grades[hand] = g;
        return readings;
    }

    public long habit(int hand, int part) {
        if (!isHand(hand) || !isFlag(part)) {
            return NO;
        }
        long above = 0;
        long below = 0;
        for (int i = 0; i < matterCount; i++) {
            if (matters[i].isShared(hand)) {
                above += matters[i].leaning(hand);
                below += Matter.LEANING_UNIT;
            }
        }
        if (below == 0) {
            return NO;
        }
        long divisor = commonDivisor(Math.abs(above), below);
        if (divisor < 1) {
            return NO;
        }
        return part == 0 ? above / divisor : below / divisor;
    }

    public int agreed(int a, int b) {
        if (!isHand(a) || !isHand(b)) {
            return NONE;
        }
        if (a == b) {
            return BAD;
        }
        int both = 0;
        for (int i = 0; i < matterCount; i++) {
            int one = matters[i].grades[a];
            int other = matters[i].grades[b];
            if (one >= 0 && other >= 0 && Math.abs(one - other) <= 1) {
                both++;
            }
        }
        return both;
    }

    public int plan(int matter, int work, int day) {
        if (matterAt(matter) == null) {
            return NONE;
        }
        if (work < 1 || work > LAST_WORK || !isDay(day)) {
            return BAD;
        }
        if (planned.has(matter)) {
            return STATE;
        }
        return planned.add(matter, work, day) ? planned.size : FULL;
    }

    public int planless() {
        int had = planned.size;
        planned.size = 0;
        return had;
    }

    public int week(int what) {
        boolean asksOrder = what >= 10 && what - 10 < planned.size;
        if (!isFlag(what) && !asksOrder) {
            return NONE;
        }
        planned.weighOrders(days);
        if (what == 0) {
            return planned.leastMissed();
        }
        return what == 1 ? planned.leastOver() : planned.bestAt(what - 10);
    }

    public int judge(int tape) {
        Tape t = tapeAt(tape);
        if (t == null) {
            return NONE;
        }
        if (t.sort == NO_ROW) {
            return NOTHING;
        }
        if (t.sort != BYTES) {
            return CAST;
        }
        if (t.length < planned.size) {
            return PLACE;
        }
        return planned.missedInOrder(t, days);
    }

    // ---- acts, tapes

    public int act(int matter, int act, int x) {
        deeds.ran = 0;
        Matter m = matterAt(matter);
        if (m == null) {
            return 0;
        }
        switch (act) {
            case 0: return Deeds.waits(deeds, m, m.kind, x);
            case 1: return Deeds.binds(deeds, m, m.kind, x);
            case 2: return Deeds.shows(deeds, m, m.kind, x);
            default: return 0;
        }
    }

    public int trace(int i) {
        if (i < 0 || i >= deeds.ran || i >= TRACE) {
            return NONE;
        }
        return deeds.began[i];
    }

    public int taken(int matter, int k) {
        if (k < MATTER || k > WATCHED) {
            return BAD;
        }
        Matter m = matterAt(matter);
        if (m == null) {
            return NOTHING;
        }
        return Deeds.isUnder(m.kind, k) ? m.kind : CAST;
    }

    public int count(int what) {
        switch (what) {
            case 0: return days.today;
            case 1: return days.feastCount;
            case 2: return persons;
            case 3: return matterCount;
            case 4: return acts;
            case 5: return bench.lawCount;
            case 6: return reader.length;
            case 7: return causes.size;
            case 8: return readings;
            case 9: return planned.size;
            case 10: return deeds.ran;
            default: return BAD;
        }
    }

    public int tape(int tape, int sort, int n) {
        Tape t = tapeAt(tape);
        if (t == null) {
            return NONE;
        }
        if (sort < NO_ROW || sort > LONGS || sort != NO_ROW && n > ITEMS) {
            return BAD;
        }
        if (sort != NO_ROW && n < 0) {
            return SIZE;
        }
        t.become(sort, sort == NO_ROW ? 0 : n);
        return 1;
    }

    public int item(int tape, int i, long v) {
        Tape t = tapeAt(tape);
        if (t == null) {
            return NONE;
        }
        if (t.sort == NO_ROW) {
            return NOTHING;
        }
        if (!t.holds(i, 1)) {
            return PLACE;
        }
        t.put(i, v);
        return 1;
    }

    public long read(int tape, int i) {
        Tape t = tapeAt(tape);
        if (t == null || !t.holds(i, 1)) {
            return NO;
        }
        return t.valueAt(i);
    }

    public int shift(int tape, int i, int other, int j, int n) {
        Tape from = tapeAt(tape);
        Tape to = tapeAt(other);
        if (from == null || to == null) {
            return NONE;
        }
        if (from.sort == NO_ROW || to.sort == NO_ROW) {
            return NOTHING;
        }
        if (from.sort != to.sort) {
            return CAST;
        }
        if (!from.holds(i, n) || !to.holds(j, n)) {
            return PLACE;
        }
        System.arraycopy(from.items, i, to.items, j, n);
        return n;
    }

    // ---- what several calls ask

    private static boolean isDay(int day) {
        return day >= 0 && day <= LAST_DAY;
    }

    private static boolean isFlag(int n) {
        return n == 0 || n == 1;
    }

    private static boolean isBody(int body) {
        return body >= 0 && body < BODIES;
    }

    private static boolean isSort(int sort) {
        return sort >= 1 && sort <= LAST_SORT;
    }

    private static boolean isHand(int hand) {
        return hand >= 0 && hand < HANDS;
    }

    private boolean isPerson(int person) {
        return person >= 0 && person < persons;
    }

    private Matter matterAt(int n) {
        return n >= 0 && n < matterCount ? matters[n] : null;
    }

    private Tape tapeAt(int n) {
        return n >= 0 && n < TAPES ? tapes[n] : null;
    }

    /** How many ACTS there are then; BAD or FULL, with nothing entered, else. */
    private int enter(Matter m, int sort, int day, int word) {
        if (!isSort(sort) || day < 0 || day > days.today || word < -LAST_WORD || word > LAST_WORD) {
            return BAD;
        }
        if (acts >= ACTS) {
            return FULL;
        }
        m.append(new Act(sort, day, word, days.today, acts));
        acts++;
        return acts;
    }

    /** Once for each MATTER, as comparing every two of them would weigh each one forty times. */
    private void weighWrongs() {
        for (int i = 0; i < matterCount; i++) {
            if (matters[i].isFound()) {
                matters[i].wrongs = bench.wrongSet(matters[i], days.today);
            }
        }
    }

    private static boolean areAlike(Matter a, Matter b) {
        return a.isFound() && b.isFound() && a.body == b.body && a.topic == b.topic && a.wrongs == b.wrongs;
    }

    private static long commonDivisor(long a, long b) {
        long greater = a;
        long lesser = b;
        for (int i = 0; i < 100 && lesser != 0; i++) {
            long rest = greater % lesser;
            greater = lesser;
            lesser = rest;
        }
        return greater;
    }

    /** TODAY and the FEASTS. */
    private static final class Days {
        int today = 0;
        final int[] feasts = new int[FEASTS];
        int feastCount = 0;

        boolean addFeast(int day) {
            if (feastCount >= FEASTS) {
                return false;
            }
            feasts[feastCount] = day;
            feastCount++;
            return true;
        }

        boolean isOff(int day) {
            return day % 7 >= 5 || feastsIn(day - 1, day) > 0;
        }

        /**
         * Jumps by whole weeks, as an owe clause may ask for 9999 WORKING DAYS. A FEAST is never on
         * a weekend, so each one passed costs just one weekday more; each round passes one at least.
         */
        int workingDay(int day, int n) {
            if (n < 1) {
                return day;
            }
            int passed = 0;
            for (int round = 0; round < FEASTS; round++) {
                int inside = feastsIn(day, weekdayBehind(day, n + passed));
                if (inside == passed) {
                    break;
                }
                passed = inside;
            }
            return weekdayBehind(day, n + passed);
        }

        private int feastsIn(int behind, int till) {
            int inside = 0;
            for (int i = 0; i < feastCount; i++) {
                if (feasts[i] > behind && feasts[i] <= till) {
                    inside++;
                }
            }
            return inside;
        }

        private static int weekdayBehind(int day, int n) {
            int weekdaysTill = 5 * (day / 7) + Math.min(day % 7 + 1, 5);
            int place = weekdaysTill + n - 1;
            return 7 * (place / 5) + place % 5;
        }
    }

    /** One ACT on FILE; each knows the next of its MATTER, in the order in which they were entered. */
    private static final class Act {
        final int sort;
        final int day;
        final int word;
        final int entered;
        final int order;
        Act next = null;

        Act(int sort, int day, int word, int entered, int order) {
            this.sort = sort;
            this.day = day;
            this.word = word;
            this.entered = entered;
            this.order = order;
        }
    }

    /** One MATTER with its FILE, its PROMISE and the GRADES that it was read with. */
    private static final class Matter {
        /** A whole multiple of each number of other HANDS, so that means stay whole. */
        static final int LEANING_UNIT = 60;

        final int number;
        final int person;
        final int body;
        final int topic;
        final int happened;
        final int loss;
        int kind = MATTER;
        int asked = -1;
        int award = -1;
        int joinedTo = -1;
        int torn = -1;
        int promiseSort = 0;
        int promiseDay = 0;
        int promiseOrder = 0;
        Act firstEntered = null;
        Act lastEntered = null;
        final int[] grades = {-1, -1, -1, -1, -1, -1};
        int wrongs = 0;

        Matter(int number, int person, int body, int topic, int happened, int loss) {
            this.number = number;
            this.person = person;
            this.body = body;
            this.topic = topic;
            this.happened = happened;
            this.loss = loss;
        }

        boolean isFound() {
            return kind == FOUND || kind == WATCHED;
        }

        boolean hasDay(int day) {
            return day >= happened && day <= LAST_DAY;
        }

        void append(Act entered) {
            if (lastEntered == null) {
                firstEntered = entered;
            } else {
                lastEntered.next = entered;
            }
            lastEntered = entered;
        }

        Act firstOf(int sort, int known) {
            Act first = null;
            for (Act a = firstEntered; a != null; a = a.next) {
                if (a.sort == sort && a.entered <= known && (first == null || a.day < first.day)) {
                    first = a;
                }
            }
            return first;
        }

        Act latestOf(int sort, int known) {
            Act latest = null;
            for (Act a = firstEntered; a != null; a = a.next) {
                if (a.sort == sort && a.entered <= known && (latest == null || a.day >= latest.day)) {
                    latest = a;
                }
            }
            return latest;
        }

        int howMany(int sort, int known) {
            int many = 0;
            for (Act a = firstEntered; a != null; a = a.next) {
                if (a.sort == sort && a.entered <= known) {
                    many++;
                }
            }
            return many;
        }

        void tear(int today) {
            if (torn < 0) {
                torn = today;
            }
        }

        boolean isTorn(int known) {
            return torn >= 0 && known >= torn;
        }

        void promise(int sort, int day, int order) {
            promiseSort = sort;
            promiseDay = day;
            promiseOrder = order;
        }

        int promiseState(int today) {
            boolean late = false;
            for (Act a = firstEntered; a != null; a = a.next) {
                if (a.order >= promiseOrder && a.sort == promiseSort) {
                    if (a.day <= promiseDay) {
                        return 1;
                    }
                    late = true;
                }
            }
            if (late) {
                return 2;
            }
            return today > promiseDay ? 3 : 0;
        }

        boolean isShared(int hand) {
            return grades[hand] >= 0 && otherHands(hand) > 0;
        }

        /** In LEANING_UNIT parts of a grade: its GRADE less the mean of the others'. */
        int leaning(int hand) {
            int others = otherHands(hand);
            if (others < 1) {
                return 0;
            }
            int sum = 0;
            for (int h = 0; h < HANDS; h++) {
                if (h != hand && grades[h] >= 0) {
                    sum += grades[h];
                }
            }
            return LEANING_UNIT * grades[hand] - LEANING_UNIT / others * sum;
        }

        private int otherHands(int hand) {
            int others = 0;
            for (int h = 0; h < HANDS; h++) {
                if (h != hand && grades[h] >= 0) {
                    others++;
                }
            }
            return others;
        }
    }

    /**
     * One LAW. All its E stand in one row of steps, behind one another, each E with its operators
     * behind what they join: so a LAW is one object of fixed size, and an E is judged without recursion.
     */
    private static final class Law {
        static final int ALWAYS = 0, IF = 1, UNLESS = 2;
        static final int TOPIC = 0, ACT = 1, WORD_BELOW = 2, WORD_ABOVE = 3, LOSS_BELOW = 4, LOSS_ABOVE = 5;
        static final int DAYS_BELOW = 6, DAYS_ABOVE = 7, NOT = 8, AND = 9, OR = 10;

        int body = OFFICE;
        int from = 0;
        int owes;
        final int[] sorts = new int[CLAUSES];
        final int[] workingDays = new int[CLAUSES];
        final int[] whens = new int[CLAUSES];
        final int[] starts = new int[CLAUSES];
        final int[] stops = new int[CLAUSES];
        int reachStart;
        int reachStop;
        int limit;
        int answer;
        int scale;
        int scaleDays;
        int cap;
        int rate;
        int few;
        final int[] steps = new int[TEXT];
        int stepCount;

        Law() {
            clear();
        }

        /** What counts without clauses; a draft with a FAULT is used again. */
        void clear() {
            owes = 0;
            reachStart = 0;
            reachStop = 0;
            limit = 9999;
            answer = 30;
            scale = 0;
            scaleDays = 1;
            cap = 9999;
            rate = 0;
            few = 1;
            stepCount = 0;
        }

        /** There is room: each step is at least one byte of THE TEXT, each clause one of CLAUSES. */
        void addStep(int kind, int sort, int n) {
            if (stepCount < TEXT) {
                steps[stepCount] = kind | sort << 4 | n << 8;
                stepCount++;
            }
        }

        void addOwe(int sort, int n, int when, int start) {
            if (owes < CLAUSES) {
                sorts[owes] = sort;
                workingDays[owes] = n;
                whens[owes] = when;
                starts[owes] = start;
                stops[owes] = stepCount;
                owes++;
            }
        }

        boolean isOwed(int clause, Matter m, int day) {
            if (whens[clause] == ALWAYS) {
                return true;
            }
            return holds(starts[clause], stops[clause], m, day) == (whens[clause] == IF);
        }

        boolean reachHolds(Matter m, int day) {
            return holds(reachStart, reachStop, m, day);
        }

        /** The answers so far are the lowest bits of a number: fifteen wait at most, and none at all holds. */
        private boolean holds(int start, int stop, Matter m, int day) {
            int waiting = 1;
            for (int i = start; i >= 0 && i < stop && i < TEXT; i++) {
                int last = waiting & 1;
                int rest = waiting >>> 1;
                switch (steps[i] & 15) {
                    case NOT: waiting ^= 1; break;
                    case AND: waiting = last == 1 ? rest : rest & ~1; break;
                    case OR: waiting = rest | last; break;
                    default: waiting = waiting << 1 | (passes(steps[i], m, day) ? 1 : 0); break;
                }
            }
            return (waiting & 1) == 1;
        }

        private static boolean passes(int step, Matter m, int day) {
            int sort = step >> 4 & 15;
            int n = step >> 8;
            switch (step & 15) {
                case TOPIC: return m.topic == n;
                case ACT: return m.firstOf(sort, day) != null;
                case LOSS_BELOW: return m.loss < n;
                case LOSS_ABOVE: return m.loss > n;
                case DAYS_BELOW: return day - m.happened < n;
                case DAYS_ABOVE: return day - m.happened > n;
                default: break;
            }
            Act latest = m.latestOf(sort, day);
            if (latest == null) {
                return false;
            }
            return (step & 15) == WORD_BELOW ? latest.word < n : latest.word > n;
        }
    }

    /**
     * THE TEXT, and a LAW read from it. Every method that reads stops at the first byte that cannot
     * stand there, so place is the FAULT as soon as one of them answers false (or a number below 0).
     */
    private static final class LawReader {
        static final int MOST_WITHIN = 6;
        static final int END = -1;

        final int[] text = new int[TEXT];
        int length = 0;
        int place = 0;
        private Law draft = new Law();

        boolean append(int bytes, int n) {
            if (length + n > TEXT) {
                return false;
            }
            for (int i = n - 1; i >= 0; i--) {
                text[length] = bytes >>> 8 * i & 255;
                length++;
            }
            return true;
        }

        boolean readLaw() {
            draft.clear();
            place = 0;
            for (int n = 1; n <= CLAUSES; n++) {
                if (!clause()) {
                    return false;
                }
                if (place >= length) {
                    return true;
                }
                if (n == CLAUSES || !takes(';')) {
                    return false;
                }
            }
            return false;
        }

        Law handOver() {
            Law made = draft;
            draft = new Law();
            return made;
        }

        private boolean clause() {
            switch (sign()) {
                case 'o': return takesAll("owe ") && owe();
                case 'r': return reachOrRate();
                case 's': return scale();
                case 'l': draft.limit = numberBehind("limit "); return draft.limit >= 0;
                case 'a': draft.answer = numberBehind("answer "); return draft.answer >= 0;
                case 'c': draft.cap = numberBehind("cap "); return draft.cap >= 0;
                case 'f': draft.few = numberBehind("few "); return draft.few >= 0;
                default: return false;
            }
        }

        private boolean owe() {
            int sort = number(1, 1);
            if (sort < 0 || !takes(' ')) {
                return false;
            }
            int n = number(0, 4);
            if (n < 0) {
                return false;
            }
            int when = Law.ALWAYS;
            int start = draft.stepCount;
            if (takes(' ')) {
                when = sign() == 'i' ? Law.IF : Law.UNLESS;
                if (!takesAll(when == Law.IF ? "if " : "unless ") || !either(0)) {
                    return false;
                }
            }
            draft.addOwe(sort, n, when, start);
            return true;
        }

        private boolean reachOrRate() {
            if (!takes('r')) {
                return false;
            }
            if (sign() == 'a') {
                draft.rate = numberBehind("ate ");
                return draft.rate >= 0;
            }
            draft.reachStart = draft.stepCount;
            if (!takesAll("each ") || !either(0)) {
                return false;
            }
            draft.reachStop = draft.stepCount;
            return true;
        }

        private boolean scale() {
            draft.scale = numberBehind("scale ");
            if (draft.scale < 0 || !takes(' ')) {
                return false;
            }
            draft.scaleDays = number(1, 4);
            return draft.scaleDays >= 0;
        }

        /** E. An operator's step comes behind both its sides: & as soon as its right side is read, | behind its T. */
        private boolean either(int within) {
            boolean isBehindAnd = false;
            boolean isBehindOr = false;
            for (int n = 0; n < TEXT; n++) {
                if (!single(within)) {
                    return false;
                }
                if (isBehindAnd) {
                    draft.addStep(Law.AND, 0, 0);
                }
                isBehindAnd = takes('&');
                if (!isBehindAnd) {
                    if (isBehindOr) {
                        draft.addStep(Law.OR, 0, 0);
                    }
                    isBehindOr = takes('|');
                    if (!isBehindOr) {
                        return true;
                    }
                }
            }
            return false;
        }

        /** F. The bounds on within are those of the document, and keep the recursion low. */
        private boolean single(int within) {
            int nots = 0;
            while (within + nots < MOST_WITHIN && takes('!')) {
                nots++;
            }
            boolean isRight;
            if (within + nots < MOST_WITHIN && takes('(')) {
                isRight = either(within + nots + 1) && takes(')');
            } else {
                isRight = test();
            }
            for (int n = 0; n < nots; n++) {
                draft.addStep(Law.NOT, 0, 0);
            }
            return isRight;
        }

        private boolean test() {
            int kind = testKind(sign());
            if (kind < 0) {
                return false;
            }
            place++;
            boolean hasSort = kind == Law.ACT || kind == Law.WORD_BELOW;
            int sort = hasSort ? number(1, 1) : 0;
            if (sort < 0) {
                return false;
            }
            if (kind >= Law.WORD_BELOW) {
                // the step for above stands behind that for below
                kind += takes('>') ? 1 : 0;
                if (kind % 2 == 0 && !takes('<')) {
                    return false;
                }
            }
            int n = kind == Law.ACT ? 0 : number(0, mostDigits(kind));
            if (n < 0) {
                return false;
            }
            draft.addStep(kind, sort, n);
            return true;
        }

        private static int testKind(int sign) {
            switch (sign) {
                case 't': return Law.TOPIC;
                case 'a': return Law.ACT;
                case 'w': return Law.WORD_BELOW;
                case 'l': return Law.LOSS_BELOW;
                case 'd': return Law.DAYS_BELOW;
                default: return -1;
            }
        }

        private static int mostDigits(int kind) {
            if (kind == Law.TOPIC) {
                return 1;
            }
            return kind == Law.WORD_BELOW || kind == Law.WORD_ABOVE ? 2 : 4;
        }

        private int numberBehind(String word) {
            return takesAll(word) ? number(0, 4) : -1;
        }

        private int number(int leastFirst, int mostDigits) {
            int value = -1;
            for (int n = 0; n < mostDigits && place < length; n++) {
                int digit = text[place] - '0';
                if (digit < (n == 0 ? leastFirst : 0) || digit > 9) {
                    return value;
                }
                value = n == 0 ? digit : value * 10 + digit;
                place++;
            }
            return value;
        }

        private boolean takesAll(String word) {
            for (int i = 0; i < word.length(); i++) {
                if (!takes(word.charAt(i))) {
                    return false;
                }
            }
            return true;
        }

        private boolean takes(char wanted) {
            if (place >= length || text[place] != wanted) {
                return false;
            }
            place++;
            return true;
        }

        private int sign() {
            return place < length ? text[place] : END;
        }
    }

    /** The LAWS, and what they say of a MATTER. What is OWED in the one weighed last stands in rows. */
    private static final class Bench {
        private final Days days;
        private final Law[] laws = new Law[LAWS];
        int lawCount = 0;
        private final Law noLaw = new Law();
        int owedCount = 0;
        final int[] sorts = new int[CLAUSES];
        final int[] dues = new int[CLAUSES];
        final int[] wrongs = new int[CLAUSES];
        final int[] clauses = new int[CLAUSES];
        private final int[] daysLate = new int[CLAUSES];

        Bench(Days days) {
            this.days = days;
        }

        int adopt(Law law, int body, int from) {
            if (lawCount >= LAWS) {
                return FULL;
            }
            law.body = body;
            law.from = from;
            laws[lawCount] = law;
            lawCount++;
            return lawCount - 1;
        }

        int lawNumber(int body, int day) {
            int best = NONE;
            for (int i = 0; i < lawCount; i++) {
                boolean inForce = laws[i].body == body && laws[i].from <= day;
                if (inForce && (best < 0 || laws[i].from >= laws[best].from)) {
                    best = i;
                }
            }
            return best;
        }

        Law lawOn(int body, int day) {
            int number = lawNumber(body, day);
            return number < 0 ? noLaw : laws[number];
        }

        boolean inReach(Matter m, int day) {
            Law office = lawOn(OFFICE, day);
            return day - m.happened <= office.limit && office.reachHolds(m, day);
        }

        int endOf(Matter m) {
            return days.workingDay(m.asked, lawOn(OFFICE, m.asked).answer);
        }

        /** How many are OWED in a MATTER on a DAY; the rows hold them then. */
        int weigh(Matter m, int day) {
            Law law = lawOn(m.body, m.happened);
            owedCount = 0;
            for (int clause = 0; clause < law.owes; clause++) {
                if (law.isOwed(clause, m, day)) {
                    int due = days.workingDay(m.happened, law.workingDays[clause]);
                    Act first = m.firstOf(law.sorts[clause], day);
                    sorts[owedCount] = law.sorts[clause];
                    dues[owedCount] = due;
                    clauses[owedCount] = clause;
                    daysLate[owedCount] = first == null ? 0 : first.day - due;
                    wrongs[owedCount] = wrongOf(m, day, due, first);
                    owedCount++;
                }
            }
            return owedCount;
        }

        private static int wrongOf(Matter m, int day, int due, Act first) {
            if (first != null) {
                return first.day > due ? LATE : 0;
            }
            if (day <= due) {
                return 0;
            }
            return m.isTorn(day) ? OPEN : LACKS;
        }

        int lateOrLacking(Matter m, int day) {
            weigh(m, day);
            int many = 0;
            for (int i = 0; i < owedCount; i++) {
                if (isLateOrLacks(i)) {
                    many++;
                }
            }
            return many;
        }

        /** As bits: each SORT with each of LATE and LACKS has its own. */
        int wrongSet(Matter m, int day) {
            weigh(m, day);
            int set = 0;
            for (int i = 0; i < owedCount; i++) {
                if (isLateOrLacks(i)) {
                    set |= 1 << 2 * sorts[i] + wrongs[i];
                }
            }
            return set;
        }

        private boolean isLateOrLacks(int i) {
            return wrongs[i] == LATE || wrongs[i] == LACKS;
        }

        int goodOf(Matter m, int day) {
            weigh(m, day);
            Law office = lawOn(OFFICE, day);
            long harm = 0;
            for (int i = 0; i < owedCount; i++) {
                if (wrongs[i] == LATE && office.scaleDays > 0) {
                    harm += (long) office.scale * (daysLate[i] / office.scaleDays);
                } else if (wrongs[i] == LACKS) {
                    harm += m.loss;
                }
            }
            harm = Math.min(harm, Math.min(m.loss, office.cap));
            long years = (day - m.happened) / 365;
            return (int) (harm * (1000 + office.rate * years) / 1000);
        }
    }

    /** The CAUSES, and which FOUND ones each of them REACHES. */
    private static final class Causes {
        int size = 0;
        private final int[] bodies = new int[CAUSES];
        private final int[] sorts = new int[CAUSES];
        private final int[] wrongs = new int[CAUSES];
        private final long[] reached = new long[CAUSES];

        boolean add(int body, int sort, int wrong) {
            if (size >= CAUSES) {
                return false;
            }
            bodies[size] = body;
            sorts[size] = sort;
            wrongs[size] = wrong;
            size++;
            return true;
        }

        /** The bench has weighed this MATTER on TODAY. */
        boolean touches(int cause, Matter m, Bench bench) {
            if (bodies[cause] != ANY_BODY && bodies[cause] != m.body) {
                return false;
            }
            for (int i = 0; i < bench.owedCount; i++) {
                boolean ofSort = sorts[cause] == 0 || sorts[cause] == bench.sorts[i];
                boolean asWrong = wrongs[cause] == 0 ? bench.wrongs[i] != 0 : wrongs[cause] == bench.wrongs[i];
                if (ofSort && asWrong) {
                    return true;
                }
            }
            return false;
        }

        void forget() {
            for (int cause = 0; cause < CAUSES; cause++) {
                reached[cause] = 0;
            }
        }

        void note(Matter m, Bench bench) {
            for (int cause = 0; cause < size; cause++) {
                if (touches(cause, m, bench)) {
                    reached[cause] |= 1L << m.number;
                }
            }
        }

        /** Sets come from the least on, so only one with fewer CAUSES may take another's place. */
        int leastCover() {
            int all = (1 << size) - 1;
            long wanted = cover(all);
            int best = all;
            int leastBits = size;
            for (int set = 0; set < all && leastBits > 0; set++) {
                if (Integer.bitCount(set) < leastBits && cover(set) == wanted) {
                    best = set;
                    leastBits = Integer.bitCount(set);
                }
            }
            return best;
        }

        private long cover(int set) {
            long covered = 0;
            for (int cause = 0; cause < size; cause++) {
                if ((set >> cause & 1) == 1) {
                    covered |= reached[cause];
                }
            }
            return covered;
        }
    }

    /** The latest REPORT, as it was when it was made. A ROW's key is BODY, TOPIC, KIND, a digit each. */
    private static final class Report {
        private static final int SEVERAL = -1;

        int size = 0;
        final int[] keys = new int[MATTERS];
        final int[] counts = new int[MATTERS];
        final boolean[] hidden = new boolean[MATTERS];
        private final int[] onlyPerson = new int[MATTERS];

        void make(Matter[] matters, int matterCount, int columns) {
            size = 0;
            int last = -1;
            for (int i = 0; i < MATTERS; i++) {
                int key = leastAbove(last, matters, matterCount, columns);
                if (key < 0) {
                    return;
                }
                keys[size] = key;
                gather(matters, matterCount, columns);
                size++;
                last = key;
            }
        }

        private static int leastAbove(int last, Matter[] matters, int matterCount, int columns) {
            int least = -1;
            for (int i = 0; i < matterCount; i++) {
                int key = keyOf(matters[i], columns);
                if (key > last && (least < 0 || key < least)) {
                    least = key;
                }
            }
            return least;
        }

        private static int keyOf(Matter m, int columns) {
            int body = (columns & 1) != 0 ? m.body : 0;
            int topic = (columns & 2) != 0 ? m.topic : 0;
            int kind = (columns & 4) != 0 ? m.kind : 0;
            return 100 * body + 10 * topic + kind;
        }

        private void gather(Matter[] matters, int matterCount, int columns) {
            counts[size] = 0;
            for (int i = 0; i < matterCount; i++) {
                if (keyOf(matters[i], columns) == keys[size]) {
                    boolean isSame = counts[size] == 0 || onlyPerson[size] == matters[i].person;
                    onlyPerson[size] = isSame ? matters[i].person : SEVERAL;
                    counts[size]++;
                }
            }
        }

        /** A lone hidden ROW could be told from the sum of all, so another one hides with it. */
        void hide(int[] lets, int few) {
            int hiddenCount = 0;
            for (int i = 0; i < size; i++) {
                boolean isOnesAlone = onlyPerson[i] != SEVERAL && lets[onlyPerson[i]] == 0;
                hidden[i] = counts[i] < few || isOnesAlone;
                hiddenCount += hidden[i] ? 1 : 0;
            }
            int second = hiddenCount == 1 ? smallestShown() : NONE;
            if (second >= 0) {
                hidden[second] = true;
            }
        }

        private int smallestShown() {
            int smallest = NONE;
            for (int i = 0; i < size; i++) {
                if (!hidden[i] && (smallest < 0 || counts[i] < counts[smallest])) {
                    smallest = i;
                }
            }
            return smallest;
        }
    }

    /**
     * THE WEEK. When one is done depends only on which ones came ahead, not on their order, so the
     * best way to go on is kept for each set of places that are done, from the whole WEEK back.
     */
    private static final class Week {
        private static final int SETS = 1 << WEEK;
        /** MISSED in the upper half and OVER in the lower: one comparison looks at both, in their order. */
        private static final long ONE_MISSED = 1L << 32;

        int size = 0;
        private final int[] numbers = new int[WEEK];
        private final int[] works = new int[WEEK];
        private final int[] lastDays = new int[WEEK];
        private final int[] doneOn = new int[SETS];
        private final long[] best = new long[SETS];

        boolean has(int matter) {
            for (int i = 0; i < size; i++) {
                if (numbers[i] == matter) {
                    return true;
                }
            }
            return false;
        }

        boolean add(int matter, int work, int day) {
            if (size >= WEEK) {
                return false;
            }
            numbers[size] = matter;
            works[size] = work;
            lastDays[size] = day;
            size++;
            return true;
        }

        void weighOrders(Days days) {
            int all = (1 << size) - 1;
            for (int set = 0; set <= all; set++) {
                doneOn[set] = days.workingDay(days.today, workOf(set));
            }
            best[all] = 0;
            for (int set = all - 1; set >= 0; set--) {
                best[set] = Long.MAX_VALUE;
                for (int place = 0; place < size; place++) {
                    if (isOpen(set, place)) {
                        best[set] = Math.min(best[set], costWith(set, place));
                    }
                }
            }
        }

        int leastMissed() {
            return (int) (best[0] / ONE_MISSED);
        }

        int leastOver() {
            return (int) (best[0] % ONE_MISSED);
        }

        int bestAt(int wanted) {
            int set = 0;
            for (int i = 0; i < size; i++) {
                int place = firstBest(set);
                if (i == wanted) {
                    return numbers[place];
                }
                set |= 1 << place;
            }
            return NONE;
        }

        private int firstBest(int set) {
            for (int place = 0; place < size; place++) {
                if (isOpen(set, place) && costWith(set, place) == best[set]) {
                    return place;
                }
            }
            return 0;
        }

        private long costWith(int set, int place) {
            int next = set | 1 << place;
            int over = doneOn[next] - lastDays[place];
            return best[next] + (over > 0 ? ONE_MISSED + over : 0);
        }

        int missedInOrder(Tape order, Days days) {
            int set = 0;
            int missed = 0;
            int work = 0;
            for (int i = 0; i < size; i++) {
                long told = order.valueAt(i);
                if (told < 0 || told >= size || !isOpen(set, (int) told)) {
                    return BAD;
                }
                int place = (int) told;
                set |= 1 << place;
                work += works[place];
                missed += days.workingDay(days.today, work) > lastDays[place] ? 1 : 0;
            }
            return missed;
        }

        private int workOf(int set) {
            int work = 0;
            for (int place = 0; place < size; place++) {
                work += isOpen(set, place) ? 0 : works[place];
            }
            return work;
        }

        private static boolean isOpen(int set, int place) {
            return (set >> place & 1) == 0;
        }
    }

    /** The bodies of acts by KIND: each method starts at a KIND and goes up to the next one that has a body. */
    private static final class Deeds {
        private static final int[] ABOVE = {-1, MATTER, MATTER, ASKED, ASKED, MATTER, FOUND};

        int ran = 0;
        final int[] began = new int[TRACE];

        static boolean isUnder(int kind, int wanted) {
            int at = kind;
            for (int i = 0; i <= WATCHED && at >= 0; i++) {
                if (at == wanted) {
                    return true;
                }
                at = ABOVE[at];
            }
            return false;
        }

        private void begin(int body) {
            if (ran < TRACE) {
                began[ran] = body;
            }
            ran++;
        }

        private static int waits(Deeds run, Matter m, int kind, int x) {
            switch (kind) {
                case WATCHED: run.begin(70); return waits(run, m, FOUND, x) ^ 9;
                case FOUND: return waits(run, m, ASKED, x);
                case SETTLED: return waits(run, m, ASKED, x);
                case ASKED: run.begin(30); return waits(run, m, MATTER, x) + m.body;
                case JOINED: run.begin(60); return waits(run, m, MATTER, x - 2);
                default: run.begin(10); return x + m.number;
            }
        }

        private static int binds(Deeds run, Matter m, int kind, int x) {
            switch (kind) {
                case WATCHED: run.begin(71); return binds(run, m, FOUND, x) - 1;
                case FOUND: run.begin(40); return binds(run, m, ASKED, x) + waits(run, m, m.kind, x + 1);
                case OUT: run.begin(20); return -binds(run, m, MATTER, x);
                default: run.begin(11); return waits(run, m, m.kind, x) * 2;
            }
        }

        private static int shows(Deeds run, Matter m, int kind, int x) {
            switch (kind) {
                case WATCHED: return shows(run, m, FOUND, x);
                case FOUND: run.begin(41); return shows(run, m, ASKED, x) - 5;
                case SETTLED: run.begin(50); return waits(run, m, m.kind, x) * 3;
                default: run.begin(12); return binds(run, m, m.kind, x) ^ m.topic;
            }
        }
    }

    /** One TAPE: a row of any sort is held as longs that were cut to that sort as they came in. */
    private static final class Tape {
        int sort = NO_ROW;
        int length = 0;
        final long[] items = new long[ITEMS];

        void become(int newSort, int n) {
            sort = newSort;
            length = n;
            for (int i = 0; i < ITEMS; i++) {
                items[i] = 0;
            }
        }

        boolean holds(long from, int n) {
            return from >= 0 && n >= 0 && from + n <= length;
        }

        void put(int i, long v) {
            if (!holds(i, 1)) {
                return;
            }
            switch (sort) {
                case BYTES: items[i] = (byte) v; break;
                case SHORTS: items[i] = (short) v; break;
                case INTS: items[i] = (int) v; break;
                default: items[i] = v; break;
            }
        }

        long valueAt(int i) {
            return holds(i, 1) ? items[i] : 0;
        }
    }
}
