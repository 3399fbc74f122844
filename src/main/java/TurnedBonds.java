/**
 * Bonds that the issuer may call and the holder may turn into shares or put back, over a tree of a share's prices.
 *
 * A row of moves is one number all through this file: a leading 1, then a bit for each move, the latest lowest.
 * So the empty row is 1, the row that is one move shorter is half of it, and all rows of up to six moves are 1 to 127.
 */
public final class TurnedBonds {
    public static final int NONE = -1;

    private static final long REFUSED = Long.MIN_VALUE;
    private static final int ABSENT = -2;
    private static final int IMPOSSIBLE = -3;

    private static final int MILLION = 1000000;
    private static final int LAST_DAY = 6;
    private static final int BONDS = 3;
    private static final int TAPE = 200;
    private static final int FED_AT_ONCE = 20;
    private static final int TEXT = 100;
    private static final int KEPT = 8;
    private static final int ROWS = 128;
    private static final int START_ROW = 1;

    private static final int ACT_NONE = 0;
    private static final int ACT_PUT = 1;
    private static final int ACT_TURNED = 2;
    private static final int ACT_CALLED_PAID = 3;
    private static final int ACT_CALLED_TURNED = 4;
    private static final int ACT_PAID_LAST = 5;
    private static final int ACT_TURNED_LAST = 6;

    private final Tape tape = new Tape();
    private final Kept now = new Kept();
    private final Kept[] kept = new Kept[KEPT];
    private int keptCount = 0;
    private final Sheet sheet = new Sheet();
    private final Sheet otherSheet = new Sheet();
    private final Draws draws = new Draws();
    private final StringBuilder text = new StringBuilder();

    public TurnedBonds() {
    }

    public int feed(int a, int b, int c, int d, int e) {
        if (tape.size() + FED_AT_ONCE > TAPE) {
            return NONE;
        }
        tape.append(a);
        tape.append(b);
        tape.append(c);
        tape.append(d);
        tape.append(e);
        return tape.size();
    }

    // ---- the tree

    public boolean tree(int t, int s) {
        if (!within(t, 1, LAST_DAY) || !isStart(s)) {
            return false;
        }
        now.tree.set(Tree.DAYS, t);
        now.tree.set(Tree.START, s);
        now.row = START_ROW;
        return true;
    }

    public boolean move(boolean up, int top, int bottom) {
        if (!within(top, 1, 20) || !within(bottom, 1, 20)) {
            return false;
        }
        now.tree.set(up ? Tree.UP_TOP : Tree.DOWN_TOP, top);
        now.tree.set(up ? Tree.UP_BOTTOM : Tree.DOWN_BOTTOM, bottom);
        return true;
    }

    public boolean chance(int p, int q) {
        if (!isChance(p, q)) {
            return false;
        }
        now.tree.set(Tree.CHANCE_TOP, p);
        now.tree.set(Tree.CHANCE_BOTTOM, q);
        return true;
    }

    public int rate(int r) {
        if (!within(r, 0, 200)) {
            return NONE;
        }
        int old = now.tree.get(Tree.RATE);
        now.tree.set(Tree.RATE, r);
        return old;
    }

    public long price(int t, int j, int what) {
        if (!isDay(t) || !within(j, 0, t) || !within(what, 0, 2)) {
            return NONE;
        }
        if (what == 0) {
            return now.tree.pence(t, j);
        }
        long top = now.tree.priceTop(t, j);
        long bottom = now.tree.priceBottom(t, j);
        return through(what == 1 ? top : bottom, greatestDivisor(top, bottom));
    }

    // ---- terms

    public boolean bond(int k, int face, int ratio) {
        if (!isBond(k) || !within(face, 1, MILLION) || !within(ratio, 0, 1000)) {
            return false;
        }
        now.bonds[k].set(Bond.FACE, face);
        now.bonds[k].set(Bond.RATIO, ratio);
        return true;
    }

    public int coupon(int k, int t, int pence) {
        if (!isBond(k) || !within(t, 1, LAST_DAY) || !within(pence, 0, 1000)) {
            return NONE;
        }
        return replaceTerm(k, Bond.COUPONS + t, pence);
    }

    public int call(int k, int t, int pence) {
        return replaceRight(k, Bond.CALLS, t, pence);
    }

    public int put(int k, int t, int pence) {
        return replaceRight(k, Bond.PUTS, t, pence);
    }

    public boolean window(int k, int x, int y) {
        if (!isBond(k) || !within(y, 0, LAST_DAY) || !within(x, 0, y)) {
            return false;
        }
        now.bonds[k].set(Bond.WINDOW_BEGIN, x);
        now.bonds[k].set(Bond.WINDOW_END, y);
        return true;
    }

    public boolean soft(int k, int m, int w, int level) {
        if (!isBond(k) || !within(w, 1, 3) || !within(m, 0, w) || !isPence(level)) {
            return false;
        }
        now.bonds[k].set(Bond.SOFT_LEAST, m);
        now.bonds[k].set(Bond.SOFT_DAYS, w);
        now.bonds[k].set(Bond.SOFT_LEVEL, level);
        return true;
    }

    public int settle(int k, int way) {
        if (!isBond(k) || !within(way, 0, 3)) {
            return NONE;
        }
        return replaceTerm(k, Bond.SETTLING, way);
    }

    public int terms(int k, int n) {
        if (!isBond(k) || !within(n, 1, TEXT) || n > tape.size()) {
            return NONE;
        }
        int clauses = tape.readTerms(n, now.bonds[k]);
        tape.clear();
        return clauses;
    }

    public int told(int k, int what) {
        if (!isBond(k) || !Bond.hasTerm(what)) {
            return NONE;
        }
        return now.bonds[k].get(what);
    }

    public boolean copy(int k, int l) {
        if (!isBond(k) || !isBond(l) || k == l) {
            return false;
        }
        now.bonds[l].takeFrom(now.bonds[k]);
        return true;
    }

    // ---- the path

    public int path(int n) {
        if (!isDay(n) || n > tape.size()) {
            return NONE;
        }
        int row = tape.readMoves(n);
        tape.clear();
        if (row < START_ROW) {
            return ABSENT;
        }
        now.row = row;
        return upsOf(row);
    }

    public int drawn(int seed, int n) {
        if (!isDay(n)) {
            return NONE;
        }
        draws.begin(seed);
        now.row = draws.drawRow(n, now.tree);
        return upsOf(now.row);
    }

    public int went(int what) {
        int length = dayOf(now.row);
        if (what == 0) {
            return length;
        }
        if (what == 1) {
            return upsOf(now.row);
        }
        if (!within(what, 10, 9 + length)) {
            return NONE;
        }
        return rowOnDay(now.row, what - 9) & 1;
    }

    // ---- what it is worth

    public long value(int k) {
        if (!isBond(k)) {
            return NONE;
        }
        workOut(k);
        return sheet.valueAt(now.row);
    }

    public long here(int k, int what) {
        if (!isBond(k) || !within(what, 0, 4)) {
            return NONE;
        }
        workOut(k);
        switch (what) {
            case 0:
                return sheet.holdAt(now.row);
            case 1:
                return sheet.turnedAt(now.row);
            case 2:
                return sheet.calledAt(now.row) >= 0 ? 1 : 0;
            case 3:
                return sheet.bond.highDays(sheet.marksAt(now.row));
            default:
                return sheet.bond.couponOn(dayOf(now.row));
        }
    }

    public int act(int k) {
        if (!isBond(k)) {
            return NONE;
        }
        workOut(k);
        return sheet.actAt(now.row);
    }

    public long along(int k, int what) {
        if (!isBond(k) || !within(what, 0, 2)) {
            return NONE;
        }
        workOut(k);
        int end = sheet.endAlong(now.row);
        if (end < START_ROW) {
            return ABSENT;
        }
        if (what == 0) {
            return dayOf(end);
        }
        return what == 1 ? sheet.actAt(end) : sheet.paidUpTo(end);
    }

    public long without(int k, int some) {
        if (!isBond(k) || !within(some, 0, 15)) {
            return NONE;
        }
        return valueWithout(k, some);
    }

    public long right(int k, int which) {
        if (!isBond(k) || !within(which, 0, 3)) {
            return REFUSED;
        }
        return valueWithout(k, 1 << which) - valueWithout(k, 0);
    }

    public long ends(int k, int act, int what) {
        if (!isBond(k) || !within(act, ACT_PUT, ACT_TURNED_LAST) || !within(what, 0, 1)) {
            return NONE;
        }
        workOut(k);
        return inLowestTerms(sheet.chanceOfEnd(act), sheet.tree.chanceWhole(), what);
    }

    public long life(int k, int what) {
        if (!isBond(k) || !within(what, 0, 1)) {
            return NONE;
        }
        workOut(k);
        return inLowestTerms(sheet.chancesTimesDays(), sheet.tree.chanceWhole(), what);
    }

    public int states(int k, int t) {
        if (!isBond(k) || !isDay(t)) {
            return NONE;
        }
        workOut(k);
        return sheet.gatherStates(t);
    }

    public int first(int k, int t, boolean called) {
        if (!isBond(k) || !isDay(t)) {
            return NONE;
        }
        workOut(k);
        int count = sheet.gatherStates(t);
        for (int i = 0; i < count; i++) {
            int row = sheet.stateRow(i);
            int act = sheet.actAt(row);
            boolean isCalled = act == ACT_CALLED_PAID || act == ACT_CALLED_TURNED;
            boolean isTurned = act == ACT_TURNED || act == ACT_TURNED_LAST;
            if (called ? isCalled : isTurned) {
                return upsOf(row);
            }
        }
        return ABSENT;
    }

    public long held(int k) {
        if (!isBond(k)) {
            return REFUSED;
        }
        workOut(k);
        return sheet.sharesHeld(now.row);
    }

    // ---- fair ones

    public int fairCoupon(int k, long aim) {
        return isBond(k) ? leastFair(k, FairKind.COUPON, aim) : NONE;
    }

    public int fairRatio(int k, long aim) {
        return isBond(k) ? leastFair(k, FairKind.RATIO, aim) : NONE;
    }

    public long bestCall(int k, int pence, int what) {
        if (!isBond(k) || !isPence(pence) || !within(what, 0, 1)) {
            return NONE;
        }
        return bestDay(k, Bond.CALLS, pence, what);
    }

    public long bestPut(int k, int pence, int what) {
        if (!isBond(k) || !isPence(pence) || !within(what, 0, 1)) {
            return NONE;
        }
        return bestDay(k, Bond.PUTS, pence, what);
    }

    public int fairRate(int k, long aim) {
        return isBond(k) ? leastFair(k, FairKind.RATE, aim) : NONE;
    }

    // ---- otherwise

    public long instead(int k, int act) {
        if (!isBond(k) || !within(act, 0, 3)) {
            return NONE;
        }
        workOut(k);
        return sheet.givesInstead(now.row, act);
    }

    public long shifted(int k, int s, int p, int q) {
        if (!isBond(k) || !isStart(s) || !isChance(p, q)) {
            return NONE;
        }
        sheet.take(now.tree, now.bonds[k]);
        sheet.tree.set(Tree.START, s);
        sheet.tree.set(Tree.CHANCE_TOP, p);
        sheet.tree.set(Tree.CHANCE_BOTTOM, q);
        sheet.playBest();
        return sheet.valueAt(START_ROW);
    }

    public long open(int k) {
        if (!isBond(k)) {
            return NONE;
        }
        now.hand.begin(now.tree, now.bonds[k]);
        workOut(k);
        return sheet.valueAt(START_ROW);
    }

    public int go(boolean up) {
        Hand hand = now.hand;
        if (!hand.opened) {
            return NONE;
        }
        if (hand.over || hand.isOnLastDay()) {
            return ABSENT;
        }
        workOutHand();
        hand.regret += Math.abs(sheet.valueAt(hand.row) - sheet.givesInstead(hand.row, 0));
        hand.row = longer(hand.row, up);
        int day = dayOf(hand.row);
        hand.paid += hand.bond.couponOn(day);
        return day;
    }

    public long does(int act) {
        Hand hand = now.hand;
        if (!hand.opened || !within(act, 0, 3)) {
            return NONE;
        }
        if (hand.over || act == 0 && !hand.isOnLastDay()) {
            return ABSENT;
        }
        workOutHand();
        long gives = sheet.givesInstead(hand.row, act);
        if (gives < 0) {
            return IMPOSSIBLE;
        }
        hand.regret += Math.abs(sheet.valueAt(hand.row) - gives);
        // go() has paid the COUPON of this DAY already
        hand.paid += gives - hand.bond.couponOn(dayOf(hand.row));
        hand.over = true;
        return hand.paid;
    }

    public long byHand(int what) {
        Hand hand = now.hand;
        if (!hand.opened || !within(what, 0, 4)) {
            return NONE;
        }
        switch (what) {
            case 0:
                return hand.over ? 0 : 1;
            case 1:
                return dayOf(hand.row);
            case 2:
                return hand.paid;
            case 3:
                return hand.regret;
            default:
                workOutHand();
                return sheet.actAt(hand.row);
        }
    }

    public long byRule(int k, int turnAt, int callAt, boolean act) {
        if (!isBond(k) || !isPence(turnAt) || !isPence(callAt)) {
            return NONE;
        }
        sheet.take(now.tree, now.bonds[k]);
        sheet.playByRule(turnAt, callAt);
        return act ? sheet.actAt(now.row) : sheet.valueAt(START_ROW);
    }

    public long run(int k, int seed, int n) {
        if (!isBond(k) || !within(n, 1, 100)) {
            return NONE;
        }
        workOut(k);
        draws.begin(seed);
        long paid = 0;
        for (int i = 0; i < n; i++) {
            int row = draws.drawRow(now.tree.lastDay(), now.tree);
            paid += sheet.paidUpTo(sheet.endAlong(row));
        }
        return paid;
    }

    public long extreme(int k, boolean most, int what) {
        if (!isBond(k) || !within(what, 0, 1)) {
            return NONE;
        }
        workOut(k);
        int days = now.tree.lastDay();
        long bestPaid = 0;
        int bestBits = 0;
        for (int bits = 0; bits < 1 << days; bits++) {
            long paid = sheet.paidUpTo(sheet.endAlong(rowOfBits(bits, days)));
            if (bits == 0 || (most ? paid > bestPaid : paid < bestPaid)) {
                bestPaid = paid;
                bestBits = bits;
            }
        }
        return what == 0 ? bestPaid : bestBits;
    }

    public int days(int k, int act) {
        if (!isBond(k) || !within(act, ACT_NONE, ACT_TURNED_LAST)) {
            return NONE;
        }
        workOut(k);
        int found = 0;
        for (int row = START_ROW; row <= sheet.lastRow(); row++) {
            if (sheet.actAt(row) == act && sheet.isComeTo(row)) {
                found |= 1 << dayOf(row);
            }
        }
        return found;
    }

    public long table(int k, int t, int i, int what) {
        if (!isBond(k) || !isDay(t) || i < 0 || !within(what, 0, 4)) {
            return NONE;
        }
        workOut(k);
        if (i >= sheet.gatherStates(t)) {
            return ABSENT;
        }
        int row = sheet.stateRow(i);
        switch (what) {
            case 0:
                return upsOf(row);
            case 1:
                return sheet.marksAt(row);
            case 2:
                return cameUp(row) ? 1 : 0;
            case 3:
                return sheet.valueAt(row);
            default:
                return sheet.actAt(row);
        }
    }

    public long hedged(int k) {
        if (!isBond(k)) {
            return REFUSED;
        }
        workOut(k);
        return sheet.hedgedAlong(now.row);
    }

    public int letter(int k, int i) {
        if (!isBond(k) || i < NONE) {
            return NONE;
        }
        text.setLength(0);
        now.bonds[k].write(text);
        if (i == NONE) {
            return text.length();
        }
        return i < text.length() ? text.charAt(i) : ABSENT;
    }

    // ---- several

    public int alike(int k, int l, int what) {
        if (!isBond(k) || !isBond(l) || !within(what, 0, 1)) {
            return NONE;
        }
        workOut(k);
        otherSheet.take(now.tree, now.bonds[l]);
        otherSheet.playBest();
        // shorter rows have lower numbers, so the first that differs is of the first DAY
        for (int row = START_ROW; row <= sheet.lastRow(); row++) {
            if (sheet.valueAt(row) != otherSheet.valueAt(row)) {
                return what == 0 ? 0 : dayOf(row);
            }
        }
        return what == 0 ? 1 : ABSENT;
    }

    public int best(boolean most) {
        int bestBond = 0;
        long bestValue = valueWithout(0, 0);
        for (int k = 1; k < BONDS; k++) {
            long value = valueWithout(k, 0);
            if (most ? value > bestValue : value < bestValue) {
                bestBond = k;
                bestValue = value;
            }
        }
        return bestBond;
    }

    public long book(int n, int m, int l) {
        if (!within(n, -100, 100) || !within(m, -100, 100) || !within(l, -100, 100)) {
            return REFUSED;
        }
        return n * valueWithout(0, 0) + m * valueWithout(1, 0) + l * valueWithout(2, 0);
    }

    // ---- all

    public int count(int what) {
        if (within(what, 0, Tree.PARTS - 1)) {
            return now.tree.get(what);
        }
        if (what == 9) {
            return tape.size();
        }
        return what == 10 ? keptCount : NONE;
    }

    public int keep() {
        if (!within(keptCount, 0, KEPT - 1)) {
            return NONE;
        }
        if (kept[keptCount] == null) {
            kept[keptCount] = new Kept();
        }
        kept[keptCount].takeFrom(now);
        keptCount++;
        return keptCount;
    }

    public int undo() {
        if (!within(keptCount, 1, KEPT) || kept[keptCount - 1] == null) {
            return NONE;
        }
        keptCount--;
        now.takeFrom(kept[keptCount]);
        return keptCount;
    }

    // ---- what the calls share

    private int replaceTerm(int k, int term, int number) {
        if (!isBond(k)) {
            return NONE;
        }
        int old = now.bonds[k].get(term);
        now.bonds[k].set(term, number);
        return old;
    }

    private int replaceRight(int k, int rights, int t, int pence) {
        if (!isBond(k) || !within(t, 0, LAST_DAY - 1) || pence != NONE && !isPence(pence)) {
            return NONE;
        }
        return replaceTerm(k, rights + t, pence == NONE ? ABSENT : pence);
    }

    private void workOut(int k) {
        if (isBond(k)) {
            sheet.take(now.tree, now.bonds[k]);
            sheet.playBest();
        }
    }

    private void workOutHand() {
        sheet.take(now.hand.tree, now.hand.bond);
        sheet.playBest();
    }

    private long valueWithout(int k, int some) {
        if (!isBond(k)) {
            return 0;
        }
        sheet.take(now.tree, now.bonds[k]);
        sheet.bond.giveUp(some);
        sheet.playBest();
        return sheet.valueAt(START_ROW);
    }

    /** VALUE never falls when COUPON or RATIO rises, and never rises with RATE, so halving finds the least fair one. */
    private int leastFair(int k, FairKind kind, long aim) {
        if (!isBond(k)) {
            return NONE;
        }
        sheet.take(now.tree, now.bonds[k]);
        int unfair = -1;
        for (int step = 512; step >= 1; step /= 2) {
            int tried = unfair + step;
            if (tried <= kind.most) {
                setTried(kind, tried);
                sheet.playBest();
                long value = sheet.valueAt(START_ROW);
                boolean isFair = kind == FairKind.RATE ? value <= aim : value >= aim;
                unfair = isFair ? unfair : tried;
            }
        }
        return unfair < kind.most ? unfair + 1 : ABSENT;
    }

    private void setTried(FairKind kind, int tried) {
        if (kind == FairKind.COUPON) {
            sheet.bond.setAllCoupons(tried);
        } else if (kind == FairKind.RATIO) {
            sheet.bond.set(Bond.RATIO, tried);
        } else {
            sheet.tree.set(Tree.RATE, tried);
        }
    }

    private long bestDay(int k, int rights, int pence, int what) {
        if (!isBond(k)) {
            return NONE;
        }
        int bestDay = 0;
        long bestValue = 0;
        for (int day = 0; day < now.tree.lastDay(); day++) {
            sheet.take(now.tree, now.bonds[k]);
            sheet.bond.set(rights + day, pence);
            sheet.playBest();
            long value = sheet.valueAt(START_ROW);
            boolean better = rights == Bond.CALLS ? value < bestValue : value > bestValue;
            if (day == 0 || better) {
                bestDay = day;
                bestValue = value;
            }
        }
        return what == 0 ? bestDay : bestValue;
    }

    private boolean isDay(int t) {
        return within(t, 0, now.tree.lastDay());
    }

    private static boolean isBond(int k) {
        return within(k, 0, BONDS - 1);
    }

    private static boolean isPence(int pence) {
        return within(pence, 0, MILLION);
    }

    private static boolean isStart(int s) {
        return within(s, 1, 1000);
    }

    private static boolean isChance(int p, int q) {
        return within(q, 2, 20) && within(p, 1, q - 1);
    }

    private static boolean within(int number, int low, int high) {
        return low <= number && number <= high;
    }

    // ---- numbers

    private static long through(long top, long bottom) {
        return bottom == 0 ? 0 : top / bottom;
    }

    private static long power(long base, int times) {
        long product = 1;
        for (int i = 0; i < times; i++) {
            product *= base;
        }
        return product;
    }

    private static long greatestDivisor(long a, long b) {
        long greater = a;
        long lesser = b;
        // Euclid's way needs some ninety steps at most for longs
        for (int i = 0; i < 100 && lesser != 0; i++) {
            long rest = greater % lesser;
            greater = lesser;
            lesser = rest;
        }
        return greater;
    }

    private static long inLowestTerms(long top, long bottom, int what) {
        return through(what == 0 ? top : bottom, greatestDivisor(top, bottom));
    }

    // ---- rows of moves

    private static int dayOf(int row) {
        for (int day = LAST_DAY; day > 0; day--) {
            if (row >> day > 0) {
                return day;
            }
        }
        return 0;
    }

    private static int upsOf(int row) {
        return row < START_ROW ? 0 : Integer.bitCount(row) - 1;
    }

    private static boolean cameUp(int row) {
        return row > START_ROW && (row & 1) == 1;
    }

    private static int longer(int row, boolean up) {
        return row * 2 + (up ? 1 : 0);
    }

    private static int rowOnDay(int row, int day) {
        int length = dayOf(row);
        return within(day, 0, length) ? row >> (length - day) : row;
    }

    private static int rowOfBits(int bits, int length) {
        int row = START_ROW;
        for (int i = 0; i < length && i < LAST_DAY; i++) {
            row = longer(row, (bits >> i & 1) == 1);
        }
        return row;
    }

    private static boolean isRow(int row) {
        return START_ROW <= row && row < ROWS;
    }

    /** What leastFair() looks for, and how high it may be. */
    private enum FairKind {
        COUPON(1000), RATIO(1000), RATE(200);

        private final int most;

        FairKind(int most) {
            this.most = most;
        }
    }

    /** THE TREE, its parts in the order in which count() tells them. */
    private static final class Tree {
        static final int DAYS = 0;
        static final int START = 1;
        static final int UP_TOP = 2;
        static final int UP_BOTTOM = 3;
        static final int DOWN_TOP = 4;
        static final int DOWN_BOTTOM = 5;
        static final int CHANCE_TOP = 6;
        static final int CHANCE_BOTTOM = 7;
        static final int RATE = 8;
        static final int PARTS = 9;

        private final int[] parts = {3, 100, 6, 5, 5, 6, 1, 2, 0};

        int get(int part) {
            return within(part, 0, PARTS - 1) ? parts[part] : NONE;
        }

        void set(int part, int number) {
            if (within(part, 0, PARTS - 1)) {
                parts[part] = number;
            }
        }

        void takeFrom(Tree other) {
            System.arraycopy(other.parts, 0, parts, 0, PARTS);
        }

        int lastDay() {
            return Math.min(parts[DAYS], LAST_DAY);
        }

        long priceTop(int day, int ups) {
            return parts[START] * power(parts[UP_TOP], ups) * power(parts[DOWN_TOP], day - ups);
        }

        long priceBottom(int day, int ups) {
            return power(parts[UP_BOTTOM], ups) * power(parts[DOWN_BOTTOM], day - ups);
        }

        long pence(int day, int ups) {
            return through(100 * priceTop(day, ups), priceBottom(day, ups));
        }

        /** The bottom that the chances of all rows of moves have in common. */
        long chanceWhole() {
            return power(parts[CHANCE_BOTTOM], lastDay());
        }

        /** The chance that a row of moves is gone, its top over chanceWhole(). */
        long chanceOf(int day, int ups) {
            int up = parts[CHANCE_TOP];
            int whole = parts[CHANCE_BOTTOM];
            return power(up, ups) * power(whole - up, day - ups) * power(whole, lastDay() - day);
        }

        /** What THE CHANCE gives of two VALUES of the next DAY. */
        long meanOf(long up, long down) {
            int top = parts[CHANCE_TOP];
            int bottom = parts[CHANCE_BOTTOM];
            long both = top * up + (bottom - top) * down;
            return through(both * 1000, bottom * (1000 + parts[RATE]));
        }
    }

    /** A BOND, its TERMS at the numbers by which told() tells them; ABSENT where there is no CALL or PUT. */
    private static final class Bond {
        static final int FACE = 0;
        static final int RATIO = 1;
        static final int WINDOW_BEGIN = 2;
        static final int WINDOW_END = 3;
        static final int SOFT_LEAST = 4;
        static final int SOFT_DAYS = 5;
        static final int SOFT_LEVEL = 6;
        static final int SETTLING = 7;
        static final int COUPONS = 10;
        static final int CALLS = 20;
        static final int PUTS = 30;
        static final int TERMS = 36;

        private final int[] terms = new int[TERMS];

        Bond() {
            terms[FACE] = 10000;
            terms[RATIO] = 100;
            terms[WINDOW_END] = LAST_DAY;
            terms[SOFT_DAYS] = 1;
            dropRights(CALLS);
            dropRights(PUTS);
        }

        static boolean hasTerm(int term) {
            return within(term, FACE, SETTLING) || within(term, COUPONS + 1, COUPONS + LAST_DAY)
                    || within(term, CALLS, CALLS + LAST_DAY - 1) || within(term, PUTS, PUTS + LAST_DAY - 1);
        }

        int get(int term) {
            return 0 <= term && term < TERMS ? terms[term] : NONE;
        }

        void set(int term, int number) {
            if (0 <= term && term < TERMS) {
                terms[term] = number;
            }
        }

        void takeFrom(Bond other) {
            System.arraycopy(other.terms, 0, terms, 0, TERMS);
        }

        void setAllCoupons(int pence) {
            for (int day = 1; day <= LAST_DAY; day++) {
                terms[COUPONS + day] = pence;
            }
        }

        private void dropRights(int rights) {
            for (int day = 0; day < LAST_DAY; day++) {
                set(rights + day, ABSENT);
            }
        }

        /** Bits as of without(). */
        void giveUp(int some) {
            if ((some & 1) != 0) {
                dropRights(CALLS);
            }
            if ((some & 2) != 0) {
                dropRights(PUTS);
            }
            if ((some & 4) != 0) {
                // a WINDOW behind all DAYS is never open
                terms[WINDOW_BEGIN] = LAST_DAY + 1;
                terms[WINDOW_END] = LAST_DAY + 1;
            }
            if ((some & 8) != 0) {
                terms[SOFT_LEAST] = 0;
            }
        }

        int couponOn(int day) {
            return within(day, 1, LAST_DAY) ? terms[COUPONS + day] : 0;
        }

        int callOn(int day) {
            return within(day, 0, LAST_DAY - 1) ? terms[CALLS + day] : ABSENT;
        }

        int putOn(int day) {
            return within(day, 0, LAST_DAY - 1) ? terms[PUTS + day] : ABSENT;
        }

        int face() {
            return terms[FACE];
        }

        int softLeast() {
            return terms[SOFT_LEAST];
        }

        int softLevel() {
            return terms[SOFT_LEVEL];
        }

        boolean mayTurnOn(int day) {
            return within(day, terms[WINDOW_BEGIN], terms[WINDOW_END]);
        }

        /** How many of the latest DAYS that SOFT looks at are marked, by marks as of table(). */
        int highDays(int marks) {
            return Integer.bitCount(marks & (1 << terms[SOFT_DAYS]) - 1);
        }

        long turnedWorth(long pence, long penceAhead) {
            long shares = terms[RATIO] * pence / 100;
            long cash = terms[RATIO] * (pence + penceAhead) / 200;
            switch (terms[SETTLING]) {
                case 0:
                    return shares;
                case 1:
                    return cash;
                case 2:
                    return Math.min(shares, cash);
                default:
                    return Math.max(shares, cash);
            }
        }

        void write(StringBuilder text) {
            text.append('f').append(terms[FACE]).append('n').append(terms[RATIO]);
            for (int day = 1; day <= LAST_DAY; day++) {
                if (terms[COUPONS + day] > 0) {
                    writeOfDay(text, 'c', day, terms[COUPONS + day]);
                }
            }
            for (int day = 0; day < LAST_DAY; day++) {
                if (terms[CALLS + day] >= 0) {
                    writeOfDay(text, 'k', day, terms[CALLS + day]);
                }
            }
            for (int day = 0; day < LAST_DAY; day++) {
                if (terms[PUTS + day] >= 0) {
                    writeOfDay(text, 'p', day, terms[PUTS + day]);
                }
            }
            text.append('w').append(terms[WINDOW_BEGIN]).append('-').append(terms[WINDOW_END]);
            text.append('s').append(terms[SOFT_LEAST]).append('/').append(terms[SOFT_DAYS]);
            text.append('/').append(terms[SOFT_LEVEL]).append('z').append(terms[SETTLING]);
        }

        private static void writeOfDay(StringBuilder text, char letter, int day, int pence) {
            text.append(letter).append(day).append(':').append(pence);
        }
    }

    /** What is played BY HAND: its own THE TREE and BOND, so that nothing told later changes it. */
    private static final class Hand {
        private final Tree tree = new Tree();
        private final Bond bond = new Bond();
        private boolean opened = false;
        private boolean over = false;
        private int row = START_ROW;
        private long paid = 0;
        private long regret = 0;

        void begin(Tree withTree, Bond withBond) {
            tree.takeFrom(withTree);
            bond.takeFrom(withBond);
            opened = true;
            over = false;
            row = START_ROW;
            paid = 0;
            regret = 0;
        }

        boolean isOnLastDay() {
            return dayOf(row) >= tree.lastDay();
        }

        void takeFrom(Hand other) {
            tree.takeFrom(other.tree);
            bond.takeFrom(other.bond);
            opened = other.opened;
            over = other.over;
            row = other.row;
            paid = other.paid;
            regret = other.regret;
        }
    }

    /** All that keep() keeps: the object's own now, and each state that is kept. */
    private static final class Kept {
        private final Tree tree = new Tree();
        private final Bond[] bonds = {new Bond(), new Bond(), new Bond()};
        private final Hand hand = new Hand();
        /** THE PATH. */
        private int row = START_ROW;

        void takeFrom(Kept other) {
            tree.takeFrom(other.tree);
            for (int k = 0; k < BONDS; k++) {
                bonds[k].takeFrom(other.bonds[k]);
            }
            hand.takeFrom(other.hand);
            row = other.row;
        }
    }

    /** The DRAWS of drawn() and run(). */
    private static final class Draws {
        private int x = 0;

        void begin(int seed) {
            x = seed & 65535;
        }

        private int drawBelow(int bound) {
            x = (25173 * x + 13849) & 65535;
            return bound > 0 ? x / 4 % bound : 0;
        }

        int drawRow(int length, Tree tree) {
            int row = START_ROW;
            for (int i = 0; i < length && i < LAST_DAY; i++) {
                row = longer(row, drawBelow(tree.get(Tree.CHANCE_BOTTOM)) < tree.get(Tree.CHANCE_TOP));
            }
            return row;
        }
    }

    /**
     * One BOND over one THE TREE, looked back from the end: what holds in the STATE that each row of moves tells.
     * Its tree and bond are copies, so a call may change them for a trial before it plays.
     */
    private static final class Sheet {
        private static final int SHARES_AT_MOST = 100000;
        private static final int STATE_KEYS = (LAST_DAY + 1) * 16;

        private final Tree tree = new Tree();
        private final Bond bond = new Bond();
        private final long[] penceByUps = new long[LAST_DAY + 1];
        private final long[] pence = new long[ROWS];
        private final long[] turned = new long[ROWS];
        /** What CALLED gives; ABSENT if there is no CALL of the DAY, or it is not free. */
        private final long[] called = new long[ROWS];
        private final long[] hold = new long[ROWS];
        private final long[] value = new long[ROWS];
        private final int[] marks = new int[ROWS];
        private final int[] act = new int[ROWS];
        /** For each key of a STATE a row that tells it, or 0. */
        private final int[] rowOfKey = new int[STATE_KEYS];

        void take(Tree withTree, Bond withBond) {
            tree.takeFrom(withTree);
            bond.takeFrom(withBond);
        }

        int lastRow() {
            return Math.min(ROWS, 2 << tree.lastDay()) - 1;
        }

        long valueAt(int row) {
            return isRow(row) ? value[row] : 0;
        }

        long holdAt(int row) {
            return isRow(row) ? hold[row] : ABSENT;
        }

        long turnedAt(int row) {
            return isRow(row) ? turned[row] : ABSENT;
        }

        long calledAt(int row) {
            return isRow(row) ? called[row] : ABSENT;
        }

        long penceAt(int row) {
            return isRow(row) ? pence[row] : 0;
        }

        int marksAt(int row) {
            return isRow(row) ? marks[row] : 0;
        }

        int actAt(int row) {
            return isRow(row) ? act[row] : ACT_NONE;
        }

        // ---- looking back from the end

        void playBest() {
            layOut();
            for (int row = rowsAheadOfLastDay(); row >= START_ROW; row--) {
                chooseBest(row, dayOf(row));
            }
        }

        void playByRule(int turnAt, int callAt) {
            layOut();
            for (int row = rowsAheadOfLastDay(); row >= START_ROW; row--) {
                chooseByRule(row, dayOf(row), turnAt, callAt);
            }
        }

        private int rowsAheadOfLastDay() {
            return (1 << tree.lastDay()) - 1;
        }

        /** All that does not depend on what is done later. */
        private void layOut() {
            for (int day = 0; day <= tree.lastDay(); day++) {
                for (int ups = 0; ups <= day && ups <= LAST_DAY; ups++) {
                    penceByUps[ups] = tree.pence(day, ups);
                }
                for (int row = 1 << day; row < 2 << day; row++) {
                    layOutRow(row, day);
                }
            }
            for (int row = rowsAheadOfLastDay() + 1; row <= lastRow(); row++) {
                endOnLastDay(row);
            }
        }

        private void layOutRow(int row, int day) {
            int ups = upsOf(row);
            if (!isRow(row) || !within(ups, 0, LAST_DAY)) {
                return;
            }
            pence[row] = penceByUps[ups];
            long penceAhead = row > START_ROW ? pence[row / 2] : pence[row];
            int marksAhead = row > START_ROW ? marks[row / 2] : 0;
            int mark = pence[row] >= bond.softLevel() ? 1 : 0;
            marks[row] = (marksAhead * 2 + mark) & 7;
            turned[row] = bond.mayTurnOn(day) ? bond.turnedWorth(pence[row], penceAhead) : ABSENT;
            boolean isFree = bond.callOn(day) >= 0 && bond.highDays(marks[row]) >= bond.softLeast();
            called[row] = isFree ? Math.max(bond.callOn(day), turned[row]) : ABSENT;
        }

        private void endOnLastDay(int row) {
            int coupon = bond.couponOn(tree.lastDay());
            long turns = turnedAt(row);
            if (turns > bond.face()) {
                setRow(row, ABSENT, ACT_TURNED_LAST, coupon + turns);
            } else {
                setRow(row, ABSENT, ACT_PAID_LAST, coupon + bond.face());
            }
        }

        private void chooseBest(int row, int day) {
            long holds = lookBack(row);
            long put = bond.putOn(day);
            long turns = turnedAt(row);
            long calls = calledAt(row);
            boolean isCalled = calls >= 0 && calls < holds;
            long gives = Math.max(isCalled ? calls : holds, Math.max(put, turns));
            int does = actWhenNotCalled(holds, put, turns);
            if (isCalled) {
                does = put > calls ? ACT_PUT : actOfCall(row, day);
            }
            setRow(row, holds, does, bond.couponOn(day) + gives);
        }

        private void chooseByRule(int row, int day, int turnAt, int callAt) {
            long holds = lookBack(row);
            int coupon = bond.couponOn(day);
            if (turnedAt(row) >= 0 && penceAt(row) >= turnAt) {
                setRow(row, holds, ACT_TURNED, coupon + turnedAt(row));
            } else if (calledAt(row) >= 0 && penceAt(row) >= callAt) {
                setRow(row, holds, actOfCall(row, day), coupon + calledAt(row));
            } else {
                setRow(row, holds, ACT_NONE, coupon + holds);
            }
        }

        private long lookBack(int row) {
            return tree.meanOf(valueAt(longer(row, true)), valueAt(longer(row, false)));
        }

        private void setRow(int row, long holds, int does, long worth) {
            if (isRow(row)) {
                hold[row] = holds;
                act[row] = does;
                value[row] = worth;
            }
        }

        private int actOfCall(int row, int day) {
            return turnedAt(row) > bond.callOn(day) ? ACT_CALLED_TURNED : ACT_CALLED_PAID;
        }

        private static int actWhenNotCalled(long holds, long put, long turns) {
            if (put <= holds && turns <= holds) {
                return ACT_NONE;
            }
            return put >= 0 && put >= turns ? ACT_PUT : ACT_TURNED;
        }

        // ---- one STATE

        /** As of instead(): COUPON too; ABSENT if that can't be there. */
        long givesInstead(int row, int act) {
            int day = dayOf(row);
            boolean onLastDay = day >= tree.lastDay();
            long gives = ABSENT;
            switch (act) {
                case 0:
                    gives = onLastDay ? bond.face() : holdAt(row);
                    break;
                case 1:
                    // a DAY that a PUT or CALL was told for may be T by now, where neither can be done
                    gives = onLastDay ? ABSENT : bond.putOn(day);
                    break;
                case 2:
                    gives = turnedAt(row);
                    break;
                default:
                    gives = onLastDay ? ABSENT : calledAt(row);
                    break;
            }
            return gives < 0 ? ABSENT : bond.couponOn(day) + gives;
        }

        private long paidByAct(int row) {
            switch (actAt(row)) {
                case ACT_NONE:
                    return 0;
                case ACT_PUT:
                    return bond.putOn(dayOf(row));
                case ACT_CALLED_PAID:
                    return bond.callOn(dayOf(row));
                case ACT_PAID_LAST:
                    return bond.face();
                default:
                    return turnedAt(row);
            }
        }

        long sharesHeld(int row) {
            if (dayOf(row) >= tree.lastDay()) {
                return ABSENT;
            }
            int up = longer(row, true);
            int down = longer(row, false);
            long apart = penceAt(up) - penceAt(down);
            return apart == 0 ? IMPOSSIBLE : through(1000 * (valueAt(up) - valueAt(down)), apart);
        }

        // ---- along a row of moves

        /** The part of a row at whose STATE the BOND ENDS; 0 if it goes on behind the row. */
        int endAlong(int row) {
            for (int day = 0; day <= dayOf(row); day++) {
                int part = rowOnDay(row, day);
                if (actAt(part) != ACT_NONE) {
                    return part;
                }
            }
            return 0;
        }

        /** All that was paid to the end of a row, if the BOND ENDS there. */
        long paidUpTo(int row) {
            long paid = paidByAct(row);
            for (int day = 1; day <= dayOf(row); day++) {
                paid += bond.couponOn(day);
            }
            return paid;
        }

        long hedgedAlong(int row) {
            long cash = valueAt(START_ROW);
            long shares = 0;
            for (int day = 0; day <= dayOf(row); day++) {
                int part = rowOnDay(row, day);
                cash -= bond.couponOn(day);
                if (actAt(part) != ACT_NONE) {
                    return cash + shares * penceAt(part) / 1000 - paidByAct(part);
                }
                long wanted = sharesWanted(part);
                cash -= (wanted - shares) * penceAt(part) / 1000;
                shares = wanted;
                cash = cash * (1000 + tree.get(Tree.RATE)) / 1000;
            }
            return ABSENT;
        }

        private long sharesWanted(int row) {
            boolean alike = penceAt(longer(row, true)) == penceAt(longer(row, false));
            return alike ? 0 : Math.max(-SHARES_AT_MOST, Math.min(SHARES_AT_MOST, sharesHeld(row)));
        }

        // ---- all rows that can be come to

        boolean isComeTo(int row) {
            for (int day = 0; day < dayOf(row); day++) {
                if (actAt(rowOnDay(row, day)) != ACT_NONE) {
                    return false;
                }
            }
            return true;
        }

        /** The top of a chance whose bottom is the tree's chanceWhole(). */
        long chanceOfEnd(int byAct) {
            long top = 0;
            for (int row = START_ROW; row <= lastRow(); row++) {
                if (actAt(row) == byAct && isComeTo(row)) {
                    top += tree.chanceOf(dayOf(row), upsOf(row));
                }
            }
            return top;
        }

        long chancesTimesDays() {
            long top = 0;
            for (int row = START_ROW; row <= lastRow(); row++) {
                if (actAt(row) != ACT_NONE && isComeTo(row)) {
                    top += dayOf(row) * tree.chanceOf(dayOf(row), upsOf(row));
                }
            }
            return top;
        }

        /** Finds the STATES of states() on a DAY: how many. Their keys rise in the order of table(). */
        int gatherStates(int day) {
            for (int key = 0; key < STATE_KEYS; key++) {
                rowOfKey[key] = 0;
            }
            int count = 0;
            for (int row = 1 << day; row < 2 << day && row < ROWS; row++) {
                int key = upsOf(row) * 16 + marksAt(row) * 2 + (cameUp(row) ? 1 : 0);
                if (within(key, 0, STATE_KEYS - 1) && rowOfKey[key] == 0 && isComeTo(row)) {
                    rowOfKey[key] = row;
                    count++;
                }
            }
            return count;
        }

        /** A row that tells STATE i of those that were gathered. */
        int stateRow(int i) {
            int left = i;
            for (int key = 0; key < STATE_KEYS; key++) {
                if (rowOfKey[key] != 0) {
                    if (left == 0) {
                        return rowOfKey[key];
                    }
                    left--;
                }
            }
            return 0;
        }
    }

    /** Bytes that were fed, and what is read from them. */
    private static final class Tape {
        private static final int END = -1;
        private static final int BLANK = 32;
        private static final int DIGITS = 7;
        private static final int CANT_STAND = 1;
        private static final int EIGHTH_DIGIT = 2;
        private static final int NO_SUCH_NUMBER = 3;

        private final int[] bytes = new int[TAPE];
        private int size = 0;
        /** What a TEXT tells so far: the BOND changes only when all of it is right. */
        private final Bond draft = new Bond();
        private int length = 0;
        private int place = 0;
        private int fault = 0;
        private int faultPlace = 0;
        /** Where the number that was read last begins. */
        private int begin = 0;

        int size() {
            return size;
        }

        void clear() {
            size = 0;
        }

        void append(int four) {
            for (int shift = 24; shift >= 0 && size < TAPE; shift -= 8) {
                bytes[size] = four >> shift & 255;
                size++;
            }
        }

        /** The row of moves that the first n bytes tell; 0 if there are other bytes. */
        int readMoves(int n) {
            int row = START_ROW;
            for (int i = 0; i < n && i < LAST_DAY; i++) {
                if (bytes[i] != 'u' && bytes[i] != 'd') {
                    return 0;
                }
                row = longer(row, bytes[i] == 'u');
            }
            return row;
        }

        /** Changes a BOND as the first n bytes tell: how many CLAUSES, or the FAULT. */
        int readTerms(int n, Bond bond) {
            draft.takeFrom(bond);
            length = Math.min(n, size);
            place = 0;
            int clauses = 0;
            while (clauses < TEXT && look() != END) {
                if (!takeClause()) {
                    return -1000 * fault - faultPlace;
                }
                clauses++;
            }
            bond.takeFrom(draft);
            return clauses;
        }

        private boolean takeClause() {
            int letter = look();
            place++;
            switch (letter) {
                case 'f':
                    return store(Bond.FACE, takeNumber(1, MILLION));
                case 'n':
                    return store(Bond.RATIO, takeNumber(0, 1000));
                case 'c':
                    return takeCoupon();
                case 'k':
                    return takeRight(Bond.CALLS);
                case 'p':
                    return takeRight(Bond.PUTS);
                case 'w':
                    return takeWindow();
                case 's':
                    return takeSoft();
                case 'z':
                    return store(Bond.SETTLING, takeDigit(0, 3));
                default:
                    return fails(CANT_STAND, place - 1);
            }
        }

        private boolean takeCoupon() {
            int number = takeDigits(look());
            if (number < 0) {
                return false;
            }
            int first = begin;
            boolean oneDigit = place - first == 1;
            if (oneDigit && look() == ':') {
                place++;
                if (!within(number, 1, LAST_DAY)) {
                    return fails(NO_SUCH_NUMBER, first);
                }
                return store(Bond.COUPONS + number, takeNumber(0, 1000));
            }
            if (number > 1000) {
                return fails(NO_SUCH_NUMBER, first);
            }
            draft.setAllCoupons(number);
            return true;
        }

        private boolean takeRight(int rights) {
            int day = takeDigit(0, LAST_DAY - 1);
            if (day < 0 || !takeSign(':')) {
                return false;
            }
            if (look() == '-') {
                place++;
                draft.set(rights + day, ABSENT);
                return true;
            }
            return store(rights + day, takeNumber(0, MILLION));
        }

        private boolean takeWindow() {
            int from = takeDigit(0, LAST_DAY);
            if (from < 0 || !takeSign('-')) {
                return false;
            }
            return store(Bond.WINDOW_END, takeDigit(from, LAST_DAY)) && store(Bond.WINDOW_BEGIN, from);
        }

        private boolean takeSoft() {
            int least = takeDigit(0, 3);
            if (least < 0 || !takeSign('/')) {
                return false;
            }
            int days = takeDigit(Math.max(1, least), 3);
            if (days < 0 || !takeSign('/')) {
                return false;
            }
            return store(Bond.SOFT_LEVEL, takeNumber(0, MILLION))
                    && store(Bond.SOFT_DAYS, days) && store(Bond.SOFT_LEAST, least);
        }

        private boolean store(int term, int number) {
            if (number < 0) {
                return false;
            }
            draft.set(term, number);
            return true;
        }

        /** The byte that is read next, behind blanks; END if there is none. */
        private int look() {
            while (place < length && byteAt(place) == BLANK) {
                place++;
            }
            return byteAt(place);
        }

        private int byteAt(int at) {
            return 0 <= at && at < length && at < TAPE ? bytes[at] : END;
        }

        private boolean takeSign(int sign) {
            if (look() != sign) {
                return fails(CANT_STAND, place);
            }
            place++;
            return true;
        }

        /** D: one digit; NONE with a FAULT. */
        private int takeDigit(int low, int high) {
            int sign = look();
            if (!isDigit(sign)) {
                return wrong(CANT_STAND, place);
            }
            if (!within(sign - '0', low, high)) {
                return wrong(NO_SUCH_NUMBER, place);
            }
            place++;
            return sign - '0';
        }

        /** N: 1 to 7 digits; NONE with a FAULT. */
        private int takeNumber(int low, int high) {
            int number = takeDigits(look());
            if (number < 0 || within(number, low, high)) {
                return number;
            }
            return wrong(NO_SUCH_NUMBER, begin);
        }

        /** All digits from here on, where look() has just seen a sign; NONE with a FAULT. */
        private int takeDigits(int sign) {
            if (!isDigit(sign)) {
                return wrong(CANT_STAND, place);
            }
            begin = place;
            int number = 0;
            while (place < length && isDigit(byteAt(place))) {
                if (place - begin == DIGITS) {
                    return wrong(EIGHTH_DIGIT, place);
                }
                number = number * 10 + byteAt(place) - '0';
                place++;
            }
            return number;
        }

        private static boolean isDigit(int sign) {
            return '0' <= sign && sign <= '9';
        }

        private int wrong(int number, int at) {
            fault = number;
            faultPlace = at;
            return NONE;
        }

        private boolean fails(int number, int at) {
            wrong(number, at);
            return false;
        }
    }
}
