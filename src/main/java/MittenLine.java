/**
 * Ten children on one string: where they are, what they feel, and the sums that are told of them.
 * All rows are made with the object and used again, so that a call makes nothing.
 */
public final class MittenLine {
    public static final int UNKNOWN = -1, OUTSIDE = -2, STATE = -3, FULL = -4, NO = -5, NONE = -6;
    public static final long GONE = -1000000000000000000L;

    private static final int CHILDREN = 10, STRINGS = 9, IMAGES = 2;
    private static final int LAST_YARD = 999, MOST_WOOL = 999, MOST_FELT = 99, LAST_DAY = 99;
    private static final int FIRST_APART = 10, FIRST_LENGTH = 15, FIRST_WOOL = 20, LONGEST = 99;
    private static final int MOST_SIGNS = 60, FIRST_SIGN = 33, LAST_SIGN = 126;
    private static final int MOST_SIGHTS = 8, MOST_SEEN = 9;
    private static final int MOST_BALLS = 9, MOST_DIGITS = 9, WORDS = 4, LAST_WORD = 999, LAST_ROW = 999999999;
    private static final int MOST_PULLED = 99, MOST_AT_ONCE = 9;
    private static final int MOST_PASSING = 16, TENTHS = 10;
    private static final int LAST_SEED = 9999, MOST_DRAWS = 99, MOST_IN_SET = 9;
    private static final int TOLD_YARD = 10, TOLD_FELT = 20, TOLD_STRING = 30;

    private static final int ON = '>', BACK = '<', HOLD = '#', SQUEEZE = '!', LET_OUT = '+', WIND_IN = '-', DAY = '.';

    private static final int NO_YARD = 1, HELD = 2, NO_NEXT = 3, NO_WOOL = 4, NO_LENGTH = 5, NO_DAY = 6;

    private final Row now;
    private final Row trial;
    private final Pad pad;
    private final Course course;
    private final Sights sights;
    private final Guess guess;
    private final Puzzles puzzles;
    private final Image image0;
    private final Image image1;

    public MittenLine() {
        now = new Row();
        trial = new Row();
        pad = new Pad();
        course = new Course();
        sights = new Sights();
        guess = new Guess();
        puzzles = new Puzzles();
        image0 = new Image();
        image1 = new Image();
    }

    // ---- 1 children, the string

    public int child(int child, int yard, int holds) {
        if (!isWithin(child, 0, CHILDREN - 1)) return UNKNOWN;
        if (!isWithin(yard, 0, LAST_YARD) || !isWithin(holds, 0, 1)) return OUTSIDE;
        if (!now.hasStringFor(child, yard)) return STATE;
        int before = now.yards[child];
        now.yards[child] = yard;
        if (now.holdsFast(child) != (holds == 1)) now.turnHold(child);
        return before;
    }

    public int string(int string, int yards) {
        if (!isWithin(string, 0, STRINGS - 1)) return UNKNOWN;
        if (!isWithin(yards, 1, LONGEST)) return OUTSIDE;
        if (now.apart(string) > yards) return STATE;
        int before = now.lengths[string];
        now.lengths[string] = yards;
        return before;
    }

    public int ball(int v) {
        if (!isWithin(v, 0, MOST_WOOL)) return OUTSIDE;
        int before = now.wool;
        now.wool = v;
        return before;
    }

    public int say(int sign) {
        if (!isWithin(sign, FIRST_SIGN, LAST_SIGN)) return OUTSIDE;
        return pad.add(sign) ? pad.count : FULL;
    }

    public int wipe() {
        int before = pad.count;
        pad.clear();
        return before;
    }

    public int fault() {
        return pad.faultPlace();
    }

    // ---- 2 days

    public int judge(int what) {
        if (!isWithin(what, 0, 2)) return OUTSIDE;
        int refusal = runText();
        if (refusal == NO) return NO;
        if (what == 0) return course.badAct;
        if (what == 1) return course.badWhy;
        return refusal == STATE ? STATE : course.drawnCount;
    }

    public int behind(int child, int what) {
        if (!isWithin(child, 0, CHILDREN - 1)) return UNKNOWN;
        if (!isWithin(what, 0, 2)) return OUTSIDE;
        int refusal = runText();
        if (refusal != 0) return refusal;
        if (what == 0) return trial.yards[child];
        if (what == 1) return trial.feels[child];
        return trial.holdsFast(child) ? 1 : 0;
    }

    public int line(int what) {
        if (!isWithin(what, 0, 3)) return OUTSIDE;
        int refusal = runText();
        if (refusal != 0) return refusal;
        if (what == 0) return trial.tautBits();
        if (what == 1) return trial.wool;
        if (what == 2) return trial.allLengths();
        return trial.day;
    }

    public int drawn(int what) {
        if (!isWithin(what, 0, 1)) return OUTSIDE;
        int refusal = runText();
        if (refusal != 0) return refusal;
        return what == 0 ? course.drawAct : course.drawChild;
    }

    public int done() {
        int refusal = runText();
        if (refusal != 0) return refusal;
        now.copyFrom(trial);
        pad.clear();
        return course.acts;
    }

    /** Runs the pad's text on the trial row, up to the first act that can not be; 0, NO or STATE. */
    private int runText() {
        if (pad.faultPlace() != NONE) return NO;
        trial.copyFrom(now);
        course.begin();
        pad.beginActs();
        for (int i = 0; i < pad.count && course.badAct == NONE; i++) {
            if (pad.endsAct(i)) course.take(trial, pad.kind, pad.actor, pad.amount);
        }
        return course.badAct == NONE ? 0 : STATE;
    }

    // ---- 3 reaching, winding, reading

    public int reach(int child, int what) {
        if (!isWithin(child, 0, CHILDREN - 1)) return UNKNOWN;
        if (!isWithin(what, 0, 1)) return OUTSIDE;
        return now.farthest(child, what == 0 ? 1 : -1);
    }

    public int wind(int row, int n, int what) {
        if (!isWithin(n, 1, MOST_BALLS)) return OUTSIDE;
        if (row < 0 || digitCount(row) > n) return OUTSIDE;
        if (!isWithin(what, 0, 1)) return OUTSIDE;
        return puzzles.windingTime(row, n, what == 1);
    }

    public int read(int a, int b, int c, int d, int row, int what) {
        if (!isWithin(a, 1, LAST_WORD) || !isWithin(b, 1, LAST_WORD)) return OUTSIDE;
        if (!isWithin(c, 1, LAST_WORD) || !isWithin(d, 1, LAST_WORD)) return OUTSIDE;
        if (!isWithin(row, 0, LAST_ROW) || !isWithin(what, 0, 1)) return OUTSIDE;
        puzzles.takeWords(a, b, c, d);
        int length = puzzles.takeDigits(row, digitCount(row));
        return what == 0 ? puzzles.countReadings(length) : puzzles.fewestWords(length);
    }

    // ---- 4 who squeezed, pulling, passing

    public int felt(int child, int v) {
        if (!isWithin(child, 0, CHILDREN - 1)) return UNKNOWN;
        if (!isWithin(v, 0, MOST_SEEN)) return OUTSIDE;
        return sights.add(child, v) ? sights.count : FULL;
    }

    public int forget() {
        int before = sights.count;
        sights.clear();
        return before;
    }

    public int fits(int i) {
        if (i < -1) return NONE;
        return i == -1 ? guess.countFitting(sights) : guess.fitting(sights, i);
    }

    public int ask(int what) {
        if (!isWithin(what, 0, 1)) return OUTSIDE;
        if (guess.countFitting(sights) == 0) return NONE;
        guess.chooseChild(sights);
        return what == 0 ? guess.askedChild : guess.mostLeft;
    }

    public int pull(int n, int k, int just, int what) {
        if (!isWithin(n, 0, MOST_PULLED) || !isWithin(k, 1, MOST_AT_ONCE)) return OUTSIDE;
        if (!isWithin(just, 0, MOST_AT_ONCE) || !isWithin(what, 0, 1)) return OUTSIDE;
        int winning = puzzles.winningPulls(n, k) & ~(1 << just);
        if (what == 0) return winning != 0 ? 1 : 0;
        return leastBit(winning);
    }

    public long passed(int n, int t, int what, int part) {
        if (!isWithin(n, 0, MOST_PASSING) || !isWithin(t, 0, TENTHS)) return GONE + OUTSIDE;
        if (!isWithin(what, 0, 1) || !isWithin(part, 0, 1)) return GONE + OUTSIDE;
        if (what == 1) return lowestTerm((long) n * t, TENTHS, part);
        // The odd turns cancel out: (1 + (1 - 2 t/10)^n) / 2, with all over 5^n.
        long whole = power(5, n);
        return lowestTerm(whole + power(5 - t, n), 2 * whole, part);
    }

    public int year(int seed, int m, int what) {
        if (!isWithin(seed, 0, LAST_SEED) || !isWithin(m, 1, MOST_DRAWS)) return OUTSIDE;
        if (!isWithin(what, 0, 2)) return OUTSIDE;
        int drawnCount = runYear(seed, m);
        if (what == 0) return trial.yards[0];
        return what == 1 ? drawnCount : trial.wool;
    }

    /** Runs a year on the trial row, and counts who were drawn in it. */
    private int runYear(int seed, int m) {
        trial.copyFrom(now);
        int drawnCount = 0;
        int x = seed;
        for (int i = 0; i < m; i++) {
            x = (75 * x + 74) % 65537;
            int actor = x % CHILDREN;
            int kind = kindByDraw(x / 10 % 8);
            int amount = 1 + x / 80 % 9;
            if (trial.whyNot(kind, actor, amount) == 0) {
                drawnCount += Integer.bitCount(trial.act(kind, actor, amount));
            }
        }
        return drawnCount;
    }

    private static int kindByDraw(int draw) {
        switch (draw) {
            case 0:
            case 1: return ON;
            case 2: return BACK;
            case 3: return HOLD;
            case 4: return SQUEEZE;
            case 5: return LET_OUT;
            case 6: return WIND_IN;
            default: return DAY;
        }
    }

    public int image(int k) {
        if (!isWithin(k, 0, IMAGES - 1)) return OUTSIDE;
        imageAt(k).keep(now, sights);
        return 1;
    }

    public int restore(int k) {
        if (!isWithin(k, 0, IMAGES - 1)) return OUTSIDE;
        Image kept = imageAt(k);
        if (!kept.isKept) return STATE;
        kept.giveBack(now, sights);
        return 1;
    }

    private Image imageAt(int k) {
        return k == 0 ? image0 : image1;
    }

    public int told(int what) {
        switch (what) {
            case 0: return pad.count;
            case 1: return now.holding;
            case 2: return now.wool;
            case 3: return now.day;
            case 4: return sights.count;
            default: return toldOfOne(what);
        }
    }

    private int toldOfOne(int what) {
        if (isWithin(what, TOLD_YARD, TOLD_YARD + CHILDREN - 1)) return now.yards[what - TOLD_YARD];
        if (isWithin(what, TOLD_FELT, TOLD_FELT + CHILDREN - 1)) return now.feels[what - TOLD_FELT];
        if (isWithin(what, TOLD_STRING, TOLD_STRING + STRINGS - 1)) return now.lengths[what - TOLD_STRING];
        return OUTSIDE;
    }

    // ---- numbers

    private static boolean isWithin(int v, int least, int most) {
        return v >= least && v <= most;
    }

    /** How many digits a number from 0 on has; nought has one. */
    private static int digitCount(int v) {
        int digits = 1;
        int rest = v / 10;
        for (int i = 0; i < 10 && rest > 0; i++) {
            rest /= 10;
            digits++;
        }
        return digits;
    }

    /** The least that is in a set of numbers 0 to 9; NONE. */
    private static int leastBit(int bits) {
        for (int i = 0; i <= MOST_IN_SET; i++) {
            if ((bits >> i & 1) == 1) return i;
        }
        return NONE;
    }

    private static long power(long base, int exponent) {
        long result = 1;
        for (int i = 0; i < exponent; i++) result *= base;
        return result;
    }

    private static long lowestTerm(long upper, long lower, int part) {
        long common = commonDivisor(upper, lower);
        if (common == 0) return 0;
        return part == 0 ? upper / common : lower / common;
    }

    private static long commonDivisor(long a, long b) {
        long large = a;
        long small = b;
        // Two numbers of 63 bits need no more than 92 turns.
        for (int i = 0; i < 100 && small != 0; i++) {
            long rest = large % small;
            large = small;
            small = rest;
        }
        return large;
    }

    /** The children, their strings and the ball, as they are at one time. */
    private static final class Row {
        final int[] yards;
        final int[] feels;
        final int[] lengths;
        /** Where a step would bring each: made anew by planStep. */
        final int[] plan;
        int holding;
        int wool;
        int day;

        Row() {
            yards = new int[CHILDREN];
            feels = new int[CHILDREN];
            lengths = new int[STRINGS];
            plan = new int[CHILDREN];
            for (int i = 0; i < CHILDREN; i++) yards[i] = FIRST_APART * i;
            for (int i = 0; i < STRINGS; i++) lengths[i] = FIRST_LENGTH;
            wool = FIRST_WOOL;
        }

        void copyFrom(Row other) {
            for (int i = 0; i < CHILDREN; i++) {
                yards[i] = other.yards[i];
                feels[i] = other.feels[i];
            }
            for (int i = 0; i < STRINGS; i++) lengths[i] = other.lengths[i];
            holding = other.holding;
            wool = other.wool;
            day = other.day;
        }

        boolean holdsFast(int who) {
            return (holding >> who & 1) == 1;
        }

        void turnHold(int who) {
            holding ^= 1 << who;
        }

        int apart(int string) {
            return Math.abs(yards[string + 1] - yards[string]);
        }

        boolean isTaut(int string) {
            return apart(string) == lengths[string];
        }

        int tautBits() {
            int bits = 0;
            for (int i = 0; i < STRINGS; i++) {
                if (isTaut(i)) bits |= 1 << i;
            }
            return bits;
        }

        int allLengths() {
            int sum = 0;
            for (int i = 0; i < STRINGS; i++) sum += lengths[i];
            return sum;
        }

        /** Whether the strings of a child are long enough for it to be at a yard. */
        boolean hasStringFor(int who, int yard) {
            if (who > 0 && Math.abs(yard - yards[who - 1]) > lengths[who - 1]) return false;
            return who == CHILDREN - 1 || Math.abs(yard - yards[who + 1]) <= lengths[who];
        }

        /** Why an act can not be: the least reason, 0 if it can. */
        int whyNot(int kind, int who, int amount) {
            switch (kind) {
                case ON: return whyNotStep(who, yards[who] + amount);
                case BACK: return whyNotStep(who, yards[who] - amount);
                case LET_OUT: return whyNotLetOut(who);
                case WIND_IN: return whyNotWind(who);
                case DAY: return day >= LAST_DAY ? NO_DAY : 0;
                default: return 0;
            }
        }

        private int whyNotStep(int who, int yard) {
            if (!isWithin(yard, 0, LAST_YARD)) return NO_YARD;
            int moved = planStep(who, yard) | 1 << who;
            return (moved & holding) != 0 ? HELD : 0;
        }

        private int whyNotLetOut(int who) {
            if (who >= STRINGS) return NO_NEXT;
            if (wool == 0) return NO_WOOL;
            return lengths[who] >= LONGEST ? NO_LENGTH : 0;
        }

        private int whyNotWind(int who) {
            if (who >= STRINGS) return NO_NEXT;
            return isTaut(who) || lengths[who] <= 1 ? NO_LENGTH : 0;
        }

        /** Does an act that can be; who were drawn by it, as bits. */
        int act(int kind, int who, int amount) {
            switch (kind) {
                case ON: return step(who, yards[who] + amount);
                case BACK: return step(who, yards[who] - amount);
                case HOLD: turnHold(who); break;
                case SQUEEZE: squeeze(who, amount); break;
                case LET_OUT: letOut(who); break;
                case WIND_IN: windIn(who); break;
                default: nextDay(); break;
            }
            return 0;
        }

        private int step(int who, int yard) {
            int bits = planStep(who, yard);
            for (int i = 0; i < CHILDREN; i++) yards[i] = plan[i];
            return bits;
        }

        /** Plans where all are when one has gone to a yard; who would be drawn, as bits. */
        private int planStep(int who, int yard) {
            for (int i = 0; i < CHILDREN; i++) plan[i] = yards[i];
            plan[who] = yard;
            int bits = 0;
            for (int i = who + 1; i < CHILDREN && planDraw(i - 1, i, lengths[i - 1]); i++) bits |= 1 << i;
            for (int i = who - 1; i >= 0 && planDraw(i + 1, i, lengths[i]); i--) bits |= 1 << i;
            return bits;
        }

        /** Plans that one is drawn till its string to the leader is taut; whether it was too far off. */
        private boolean planDraw(int leader, int who, int length) {
            if (plan[who] - plan[leader] > length) {
                plan[who] = plan[leader] + length;
                return true;
            }
            if (plan[leader] - plan[who] > length) {
                plan[who] = plan[leader] - length;
                return true;
            }
            return false;
        }

        private void squeeze(int who, int strength) {
            int left = strength;
            for (int i = who; i < STRINGS && left > 0; i++) {
                left -= lossBy(i);
                feelMore(i + 1, left);
            }
            left = strength;
            for (int i = who - 1; i >= 0 && left > 0; i--) {
                left -= lossBy(i);
                feelMore(i, left);
            }
        }

        private int lossBy(int string) {
            return isTaut(string) ? 1 : 3;
        }

        private void feelMore(int who, int more) {
            if (more > 0) feels[who] = Math.min(MOST_FELT, feels[who] + more);
        }

        private void letOut(int who) {
            if (who >= STRINGS) return;
            lengths[who]++;
            wool--;
        }

        private void windIn(int who) {
            if (who >= STRINGS) return;
            lengths[who]--;
            wool = Math.min(MOST_WOOL, wool + 1);
        }

        private void nextDay() {
            day++;
            for (int i = 0; i < CHILDREN; i++) feels[i] = 0;
        }

        /** How many yards one can go at once; way is 1 on, -1 back. */
        int farthest(int who, int way) {
            if (holdsFast(who)) return 0;
            int most = way > 0 ? LAST_YARD - yards[who] : yards[who];
            int slack = 0;
            for (int i = who + 1; i < CHILDREN; i++) {
                slack += lengths[i - 1];
                if (holdsFast(i)) most = Math.min(most, way * (yards[i] - yards[who]) + slack);
            }
            slack = 0;
            for (int i = who - 1; i >= 0; i--) {
                slack += lengths[i];
                if (holdsFast(i)) most = Math.min(most, way * (yards[i] - yards[who]) + slack);
            }
            return most;
        }
    }

    /** The signs that were said, and the act that is read from them just now. */
    private static final class Pad {
        private static final int AN_ACT = 0, A_DEED = 1, A_DIGIT = 2, AMISS = 3;

        final int[] signs;
        int count;
        int awaited;
        int actor;
        int kind;
        int amount;

        Pad() {
            signs = new int[MOST_SIGNS];
        }

        boolean add(int sign) {
            if (count >= MOST_SIGNS) return false;
            signs[count] = sign;
            count++;
            return true;
        }

        void clear() {
            count = 0;
        }

        /** The place of the first sign that can not stand there, or their number if more must come; NONE. */
        int faultPlace() {
            int state = AN_ACT;
            for (int i = 0; i < count; i++) {
                state = awaitedAfter(state, signs[i]);
                if (state == AMISS) return i;
            }
            return state == AN_ACT ? NONE : count;
        }

        private static int awaitedAfter(int state, int sign) {
            if (state == AN_ACT) {
                if (sign == DAY) return AN_ACT;
                return isWithin(sign, 'A', 'A' + CHILDREN - 1) ? A_DEED : AMISS;
            }
            if (state == A_DIGIT) return isWithin(sign, '1', '9') ? AN_ACT : AMISS;
            if (sign == ON || sign == BACK || sign == SQUEEZE) return A_DIGIT;
            return sign == HOLD || sign == LET_OUT || sign == WIND_IN ? AN_ACT : AMISS;
        }

        void beginActs() {
            awaited = AN_ACT;
            actor = 0;
            kind = DAY;
            amount = 0;
        }

        /** Reads the sign at a place of a text without a fault; whether an act ends with it. */
        boolean endsAct(int place) {
            if (!isWithin(place, 0, count - 1)) return false;
            int sign = signs[place];
            if (awaited == AN_ACT && sign == DAY) kind = DAY;
            if (awaited == AN_ACT && sign != DAY) actor = sign - 'A';
            if (awaited == A_DEED) kind = sign;
            if (awaited == A_DIGIT) amount = sign - '0';
            awaited = awaitedAfter(awaited, sign);
            return awaited == AN_ACT;
        }
    }

    /** What came of a text's acts, up to the first that can not be. */
    private static final class Course {
        int acts;
        int badAct;
        int badWhy;
        int drawnCount;
        int drawAct;
        int drawChild;

        void begin() {
            acts = 0;
            badAct = NONE;
            badWhy = NONE;
            drawnCount = 0;
            drawAct = NONE;
            drawChild = NONE;
        }

        void take(Row row, int kind, int who, int amount) {
            int why = row.whyNot(kind, who, amount);
            if (why != 0) {
                badAct = acts;
                badWhy = why;
                return;
            }
            int bits = row.act(kind, who, amount);
            if (bits != 0 && drawAct == NONE) {
                drawAct = acts;
                drawChild = leastBit(bits);
            }
            drawnCount += Integer.bitCount(bits);
            acts++;
        }
    }

    /** Which children have felt how much, as was told. */
    private static final class Sights {
        final int[] who;
        final int[] much;
        int count;

        Sights() {
            who = new int[MOST_SIGHTS];
            much = new int[MOST_SIGHTS];
        }

        boolean add(int child, int v) {
            if (count >= MOST_SIGHTS) return false;
            who[count] = child;
            much[count] = v;
            count++;
            return true;
        }

        void clear() {
            count = 0;
        }

        void copyFrom(Sights other) {
            for (int i = 0; i < MOST_SIGHTS; i++) {
                who[i] = other.who[i];
                much[i] = other.much[i];
            }
            count = other.count;
        }
    }

    /** Who may have squeezed, how hard, and what each string took: codes of 100 c, 10 d and k. */
    private static final class Guess {
        private static final int FIRST_CODE = 11, LAST_CODE = 993, MOST_LOSS = 3;

        final int[] tally;
        int askedChild;
        int mostLeft;

        Guess() {
            tally = new int[MOST_SEEN + 1];
        }

        private static boolean isCode(int code) {
            return code / 10 % 10 >= 1 && isWithin(code % 10, 1, MOST_LOSS);
        }

        /** What a child has felt by a code, 0 to 9. */
        private static int feltBy(int code, int child) {
            int strings = Math.abs(child - code / 100);
            return Math.max(0, code / 10 % 10 - code % 10 * strings);
        }

        private static boolean isFitting(Sights sights, int code) {
            if (!isCode(code)) return false;
            for (int i = 0; i < sights.count; i++) {
                if (feltBy(code, sights.who[i]) != sights.much[i]) return false;
            }
            return true;
        }

        int countFitting(Sights sights) {
            int count = 0;
            for (int code = FIRST_CODE; code <= LAST_CODE; code++) {
                if (isFitting(sights, code)) count++;
            }
            return count;
        }

        int fitting(Sights sights, int place) {
            int before = 0;
            for (int code = FIRST_CODE; code <= LAST_CODE; code++) {
                if (!isFitting(sights, code)) continue;
                if (before == place) return code;
                before++;
            }
            return NONE;
        }

        /** Finds the least child by whose answer fewest codes are left at the most. */
        void chooseChild(Sights sights) {
            askedChild = NONE;
            mostLeft = NONE;
            for (int child = 0; child < CHILDREN; child++) {
                int left = mostAlike(sights, child);
                if (askedChild == NONE || left < mostLeft) {
                    askedChild = child;
                    mostLeft = left;
                }
            }
        }

        private int mostAlike(Sights sights, int child) {
            for (int v = 0; v <= MOST_SEEN; v++) tally[v] = 0;
            int most = 0;
            for (int code = FIRST_CODE; code <= LAST_CODE; code++) {
                if (!isFitting(sights, code)) continue;
                int v = feltBy(code, child);
                if (!isWithin(v, 0, MOST_SEEN)) continue;
                tally[v]++;
                most = Math.max(most, tally[v]);
            }
            return most;
        }
    }

    /** Winding, reading and pulling, with the rows that they need. */
    private static final class Puzzles {
        final int[] digits;
        final int[] words;
        final int[] byEnd;
        final int[] sizes;
        final int[][] times;
        final int[] winning;

        Puzzles() {
            digits = new int[MOST_DIGITS];
            words = new int[WORDS];
            byEnd = new int[MOST_DIGITS + 1];
            sizes = new int[MOST_BALLS + 1];
            times = new int[MOST_BALLS][MOST_BALLS];
            winning = new int[MOST_PULLED + 1];
        }

        /** Takes the last so many digits of a row, first digit first; how many. */
        int takeDigits(int row, int wanted) {
            int length = Math.min(wanted, MOST_DIGITS);
            int rest = row;
            for (int i = length - 1; i >= 0; i--) {
                digits[i] = rest % 10;
                rest /= 10;
            }
            return length;
        }

        int windingTime(int row, int n, boolean atMost) {
            int length = takeDigits(row, n);
            sizes[0] = 0;
            for (int i = 0; i < length; i++) sizes[i + 1] = sizes[i] + digits[i];
            for (int first = length - 1; first >= 0; first--) {
                times[first][first] = 0;
                for (int last = first + 1; last < length; last++) {
                    int size = sizes[last + 1] - sizes[first];
                    times[first][last] = size + timeOfParts(first, last, atMost);
                }
            }
            return times[0][length - 1];
        }

        private int timeOfParts(int first, int last, boolean atMost) {
            int best = times[first][first] + times[first + 1][last];
            for (int cut = first + 1; cut < last; cut++) {
                int time = times[first][cut] + times[cut + 1][last];
                best = atMost ? Math.max(best, time) : Math.min(best, time);
            }
            return best;
        }

        void takeWords(int a, int b, int c, int d) {
            words[0] = a;
            words[1] = b;
            words[2] = c;
            words[3] = d;
        }

        /** Whether a word, and no earlier one alike, stands in the row just before an end. */
        private boolean standsBefore(int w, int end) {
            for (int i = 0; i < w; i++) {
                if (words[i] == words[w]) return false;
            }
            int rest = words[w];
            int length = digitCount(rest);
            if (length > end) return false;
            for (int i = end - 1; i >= end - length; i--) {
                if (digits[i] != rest % 10) return false;
                rest /= 10;
            }
            return true;
        }

        int countReadings(int length) {
            byEnd[0] = 1;
            for (int end = 1; end <= length; end++) {
                byEnd[end] = 0;
                for (int w = 0; w < WORDS; w++) {
                    if (standsBefore(w, end)) byEnd[end] += byEnd[end - digitCount(words[w])];
                }
            }
            return byEnd[length];
        }

        int fewestWords(int length) {
            byEnd[0] = 0;
            for (int end = 1; end <= length; end++) {
                byEnd[end] = NONE;
                for (int w = 0; w < WORDS; w++) {
                    if (!standsBefore(w, end)) continue;
                    int before = byEnd[end - digitCount(words[w])];
                    if (before == NONE) continue;
                    if (byEnd[end] == NONE || before + 1 < byEnd[end]) byEnd[end] = before + 1;
                }
            }
            return byEnd[length];
        }

        /** By which pulls one wins of n yards, as bits, were none of them forbidden. */
        int winningPulls(int n, int k) {
            for (int yards = 0; yards <= n; yards++) {
                int bits = 0;
                for (int m = 1; m <= k && m <= yards; m++) {
                    // The other one may not answer with m, so a win by m alone is none.
                    if ((winning[yards - m] & ~(1 << m)) == 0) bits |= 1 << m;
                }
                winning[yards] = bits;
            }
            return winning[n];
        }
    }

    /** All but the pad, as it was kept. */
    private static final class Image {
        final Row row;
        final Sights sights;
        boolean isKept;

        Image() {
            row = new Row();
            sights = new Sights();
        }

        void keep(Row fromRow, Sights fromSights) {
            row.copyFrom(fromRow);
            sights.copyFrom(fromSights);
            isKept = true;
        }

        void giveBack(Row toRow, Sights toSights) {
            toRow.copyFrom(row);
            toSights.copyFrom(sights);
        }
    }
}
