import java.math.BigInteger;
import java.util.ArrayList;
import java.util.Arrays;
import java.util.HashMap;
import java.util.List;
import java.util.Map;
import java.util.TreeSet;
import java.util.regex.Matcher;
import java.util.regex.Pattern;

/**
 * The document's promises once more, written for plainness alone and apart from the program: rows of moves are
 * texts of u and d, STATES are looked at by recursion, what is fair is sought by trying all.
 */
final class SlowModel {
    private static final int NONE = -1;

    static final class Tree {
        int days = 3;
        int start = 100;
        int a = 6;
        int b = 5;
        int c = 5;
        int d = 6;
        int p = 1;
        int q = 2;
        int rate = 0;
        private final Map<Integer, Long> penceKnown = new HashMap<>();

        Tree twin() {
            Tree t = new Tree();
            t.days = days;
            t.start = start;
            t.a = a;
            t.b = b;
            t.c = c;
            t.d = d;
            t.p = p;
            t.q = q;
            t.rate = rate;
            return t;
        }

        BigInteger top(int t, int j) {
            return big(start).multiply(big(a).pow(j)).multiply(big(c).pow(t - j));
        }

        BigInteger bottom(int t, int j) {
            return big(b).pow(j).multiply(big(d).pow(t - j));
        }

        long pence(String moves) {
            int t = moves.length();
            int j = ups(moves);
            Long known = penceKnown.get(10 * t + j);
            if (known == null) {
                known = top(t, j).multiply(big(100)).divide(bottom(t, j)).longValueExact();
                penceKnown.put(10 * t + j, known);
            }
            return known;
        }
    }

    static final class Bond {
        int face = 10000;
        int ratio = 100;
        int[] coupons = new int[7];
        int[] calls = {-2, -2, -2, -2, -2, -2};
        int[] puts = {-2, -2, -2, -2, -2, -2};
        int x = 0;
        int y = 6;
        int m = 0;
        int w = 1;
        int level = 0;
        int way = 0;
        boolean never = false;

        Bond twin() {
            Bond k = new Bond();
            k.face = face;
            k.ratio = ratio;
            k.coupons = coupons.clone();
            k.calls = calls.clone();
            k.puts = puts.clone();
            k.x = x;
            k.y = y;
            k.m = m;
            k.w = w;
            k.level = level;
            k.way = way;
            k.never = never;
            return k;
        }
    }

    /** A BOND over THE TREE, with what is asked of a row of moves. */
    static final class Play {
        final Tree tree;
        final Bond bond;
        private final Map<String, Long> valueKnown = new HashMap<>();

        Play(Tree tree, Bond bond) {
            this.tree = tree;
            this.bond = bond;
        }

        boolean last(String s) {
            return s.length() == tree.days;
        }

        boolean inWindow(String s) {
            return !bond.never && bond.x <= s.length() && s.length() <= bond.y;
        }

        long turned(String s) {
            if (!inWindow(s)) {
                return -2;
            }
            long here = tree.pence(s);
            long ahead = s.isEmpty() ? here : tree.pence(s.substring(0, s.length() - 1));
            long shares = big(bond.ratio).multiply(big(here)).divide(big(100)).longValueExact();
            long cash = big(bond.ratio).multiply(big(here).add(big(ahead))).divide(big(200)).longValueExact();
            if (bond.way == 0) {
                return shares;
            }
            if (bond.way == 1) {
                return cash;
            }
            return bond.way == 2 ? Math.min(shares, cash) : Math.max(shares, cash);
        }

        boolean high(String s) {
            return tree.pence(s) >= bond.level;
        }

        int highCount(String s) {
            int n = 0;
            for (int back = 0; back < bond.w; back++) {
                if (s.length() - back >= 0 && high(s.substring(0, s.length() - back))) {
                    n++;
                }
            }
            return n;
        }

        int marks(String s) {
            int bits = 0;
            for (int back = 0; back < 3; back++) {
                if (s.length() - back >= 0 && high(s.substring(0, s.length() - back))) {
                    bits += 1 << back;
                }
            }
            return bits;
        }

        int callOf(String s) {
            return s.length() > 5 ? -2 : bond.calls[s.length()];
        }

        int putOf(String s) {
            return s.length() > 5 ? -2 : bond.puts[s.length()];
        }

        boolean free(String s) {
            return callOf(s) != -2 && highCount(s) >= bond.m;
        }

        long called(String s) {
            return inWindow(s) ? Math.max(callOf(s), turned(s)) : callOf(s);
        }

        int coupon(String s) {
            return s.isEmpty() ? 0 : bond.coupons[s.length()];
        }

        long mean(long up, long down) {
            BigInteger both = big(tree.p).multiply(big(up)).add(big(tree.q - tree.p).multiply(big(down)));
            return both.multiply(big(1000)).divide(big(tree.q).multiply(big(1000 + tree.rate))).longValueExact();
        }

        long hold(String s) {
            return last(s) ? -2 : mean(value(s + "u"), value(s + "d"));
        }

        long value(String s) {
            Long known = valueKnown.get(s);
            if (known == null) {
                known = coupon(s) + gives(s);
                valueKnown.put(s, known);
            }
            return known;
        }

        private long gives(String s) {
            if (last(s)) {
                return inWindow(s) ? Math.max(bond.face, turned(s)) : bond.face;
            }
            long best = free(s) ? Math.min(hold(s), called(s)) : hold(s);
            if (putOf(s) != -2) {
                best = Math.max(best, putOf(s));
            }
            if (inWindow(s)) {
                best = Math.max(best, turned(s));
            }
            return best;
        }

        int act(String s) {
            boolean window = inWindow(s);
            if (last(s)) {
                return window && turned(s) > bond.face ? 6 : 5;
            }
            boolean isPut = putOf(s) != -2;
            if (free(s) && called(s) < hold(s)) {
                if (isPut && putOf(s) > called(s)) {
                    return 1;
                }
                return window && turned(s) > callOf(s) ? 4 : 3;
            }
            boolean putMore = isPut && putOf(s) > hold(s);
            boolean turnedMore = window && turned(s) > hold(s);
            if (!putMore && !turnedMore) {
                return 0;
            }
            return isPut && (!window || putOf(s) >= turned(s)) ? 1 : 2;
        }

        long pays(String s) {
            switch (act(s)) {
                case 1:
                    return putOf(s);
                case 3:
                    return callOf(s);
                case 5:
                    return bond.face;
                case 0:
                    throw new IllegalStateException("it goes on");
                default:
                    return turned(s);
            }
        }

        String end(String s) {
            for (int t = 0; t <= s.length(); t++) {
                if (act(s.substring(0, t)) != 0) {
                    return s.substring(0, t);
                }
            }
            return null;
        }

        long paid(String end) {
            long all = pays(end);
            for (int t = 1; t <= end.length(); t++) {
                all += bond.coupons[t];
            }
            return all;
        }

        /** Rows to a DAY along which ACTS ahead are 0. */
        List<String> come(int t) {
            List<String> rows = new ArrayList<>();
            rows.add("");
            for (int i = 0; i < t; i++) {
                List<String> next = new ArrayList<>();
                for (String s : rows) {
                    if (act(s) == 0) {
                        next.add(s + "d");
                        next.add(s + "u");
                    }
                }
                rows = next;
            }
            return rows;
        }

        /** STATES as texts that sort as table() wants: ups, marks, came up, a row that tells it. */
        List<String> states(int t) {
            TreeSet<String> keys = new TreeSet<>();
            Map<String, String> rowOf = new HashMap<>();
            for (String s : come(t)) {
                String key = ups(s) + " " + marks(s) + " " + (s.endsWith("u") ? 1 : 0);
                keys.add(key);
                rowOf.put(key, s);
            }
            List<String> all = new ArrayList<>();
            for (String key : keys) {
                all.add(key + " " + rowOf.get(key) + ".");
            }
            return all;
        }

        long held(String s) {
            if (last(s)) {
                return -2;
            }
            long apart = tree.pence(s + "u") - tree.pence(s + "d");
            return apart == 0 ? -3 : 1000 * (value(s + "u") - value(s + "d")) / apart;
        }

        long instead(String s, int act) {
            switch (act) {
                case 0:
                    return coupon(s) + (last(s) ? bond.face : hold(s));
                case 1:
                    return last(s) || putOf(s) == -2 ? -2 : coupon(s) + putOf(s);
                case 2:
                    return inWindow(s) ? coupon(s) + turned(s) : -2;
                default:
                    return !last(s) && free(s) ? coupon(s) + called(s) : -2;
            }
        }

        BigInteger[] fraction(int what) {
            BigInteger top = BigInteger.ZERO;
            BigInteger whole = big(tree.q).pow(tree.days);
            for (int t = 0; t <= tree.days; t++) {
                for (String s : come(t)) {
                    int act = act(s);
                    if (act != 0 && (what == 0 || what == act)) {
                        BigInteger one = big(tree.p).pow(ups(s)).multiply(big(tree.q - tree.p).pow(t - ups(s)))
                                .multiply(big(tree.q).pow(tree.days - t));
                        top = top.add(what == 0 ? one.multiply(big(t)) : one);
                    }
                }
            }
            BigInteger g = top.gcd(whole);
            return new BigInteger[] {top.divide(g), whole.divide(g)};
        }

        int ruleAct(String s, int turnAt, int callAt) {
            if (last(s)) {
                return act(s);
            }
            if (inWindow(s) && tree.pence(s) >= turnAt) {
                return 2;
            }
            if (free(s) && tree.pence(s) >= callAt) {
                return inWindow(s) && turned(s) > callOf(s) ? 4 : 3;
            }
            return 0;
        }

        long ruleValue(String s, int turnAt, int callAt) {
            switch (ruleAct(s, turnAt, callAt)) {
                case 0:
                    return coupon(s) + mean(ruleValue(s + "u", turnAt, callAt), ruleValue(s + "d", turnAt, callAt));
                case 3:
                    return coupon(s) + callOf(s);
                case 5:
                    return coupon(s) + bond.face;
                default:
                    return coupon(s) + turned(s);
            }
        }
    }

    static final class Hand {
        Tree tree;
        Bond bond;
        String moves = "";
        boolean over = false;
        long paid = 0;
        long regret = 0;

        Hand twin() {
            Hand h = new Hand();
            h.tree = tree.twin();
            h.bond = bond.twin();
            h.moves = moves;
            h.over = over;
            h.paid = paid;
            h.regret = regret;
            return h;
        }
    }

    private static final class Saved {
        Tree tree;
        Bond[] bonds;
        String path;
        Hand hand;
    }

    private Tree tree = new Tree();
    private Bond[] bonds = {new Bond(), new Bond(), new Bond()};
    private String path = "";
    private String tape = "";
    private Hand hand = null;
    private final List<Saved> saved = new ArrayList<>();

    private static BigInteger big(long n) {
        return BigInteger.valueOf(n);
    }

    static int ups(String moves) {
        int n = 0;
        for (char c : moves.toCharArray()) {
            n += c == 'u' ? 1 : 0;
        }
        return n;
    }

    private static boolean in(long n, long low, long high) {
        return n >= low && n <= high;
    }

    private static boolean noBond(int k) {
        return k < 0 || k > 2;
    }

    private Play play(int k) {
        return new Play(tree, bonds[k]);
    }

    private void touch() {
        tree = tree.twin();
    }

    int feed(int a, int b, int c, int d, int e) {
        if (tape.length() + 20 > 200) {
            return NONE;
        }
        StringBuilder more = new StringBuilder(tape);
        for (int n : new int[] {a, b, c, d, e}) {
            more.append((char) (n >>> 24)).append((char) (n >>> 16 & 255));
            more.append((char) (n >>> 8 & 255)).append((char) (n & 255));
        }
        tape = more.toString();
        return tape.length();
    }

    boolean tree(int t, int s) {
        if (!in(t, 1, 6) || !in(s, 1, 1000)) {
            return false;
        }
        touch();
        tree.days = t;
        tree.start = s;
        path = "";
        return true;
    }

    boolean move(boolean up, int top, int bottom) {
        if (!in(top, 1, 20) || !in(bottom, 1, 20)) {
            return false;
        }
        touch();
        if (up) {
            tree.a = top;
            tree.b = bottom;
        } else {
            tree.c = top;
            tree.d = bottom;
        }
        return true;
    }

    boolean chance(int p, int q) {
        if (!in(q, 2, 20) || !in(p, 1, q - 1)) {
            return false;
        }
        touch();
        tree.p = p;
        tree.q = q;
        return true;
    }

    int rate(int r) {
        if (!in(r, 0, 200)) {
            return NONE;
        }
        int was = tree.rate;
        touch();
        tree.rate = r;
        return was;
    }

    long price(int t, int j, int what) {
        if (!in(t, 0, tree.days) || !in(j, 0, t) || !in(what, 0, 2)) {
            return NONE;
        }
        BigInteger top = tree.top(t, j);
        BigInteger bottom = tree.bottom(t, j);
        if (what == 0) {
            return top.multiply(big(100)).divide(bottom).longValueExact();
        }
        return (what == 1 ? top : bottom).divide(top.gcd(bottom)).longValueExact();
    }

    boolean bond(int k, int face, int ratio) {
        if (noBond(k) || !in(face, 1, 1000000) || !in(ratio, 0, 1000)) {
            return false;
        }
        bonds[k].face = face;
        bonds[k].ratio = ratio;
        return true;
    }

    int coupon(int k, int t, int pence) {
        if (noBond(k) || !in(t, 1, 6) || !in(pence, 0, 1000)) {
            return NONE;
        }
        int was = bonds[k].coupons[t];
        bonds[k].coupons[t] = pence;
        return was;
    }

    int call(int k, int t, int pence) {
        return noBond(k) ? NONE : setRight(bonds[k].calls, t, pence);
    }

    int put(int k, int t, int pence) {
        return noBond(k) ? NONE : setRight(bonds[k].puts, t, pence);
    }

    private int setRight(int[] row, int t, int pence) {
        if (!in(t, 0, 5) || !in(pence, -1, 1000000)) {
            return NONE;
        }
        int was = row[t];
        row[t] = pence == -1 ? -2 : pence;
        return was;
    }

    boolean window(int k, int x, int y) {
        if (noBond(k) || !in(x, 0, 6) || !in(y, 0, 6) || x > y) {
            return false;
        }
        bonds[k].x = x;
        bonds[k].y = y;
        return true;
    }

    boolean soft(int k, int m, int w, int level) {
        if (noBond(k) || !in(w, 1, 3) || m < 0 || m > w || !in(level, 0, 1000000)) {
            return false;
        }
        bonds[k].m = m;
        bonds[k].w = w;
        bonds[k].level = level;
        return true;
    }

    int settle(int k, int way) {
        if (noBond(k) || !in(way, 0, 3)) {
            return NONE;
        }
        int was = bonds[k].way;
        bonds[k].way = way;
        return was;
    }

    private static final Pattern SIGNS = Pattern.compile("( *([fn] *[0-9]+|c *[0-9]+|c *[0-9] *: *[0-9]+"
            + "|[kp] *[0-9] *: *([0-9]+|-)|w *[0-9] *- *[0-9]|s *[0-9] */ *[0-9] */ *[0-9]+|z *[0-9]))* *",
            Pattern.DOTALL);
    private static final Pattern TOKEN = Pattern.compile("[0-9]+|[^ 0-9]", Pattern.DOTALL);

    /** Where a byte can't stand, all numbers thought right; -1: nowhere. */
    static int firstStray(String text) {
        for (int n = 1; n <= text.length(); n++) {
            Matcher m = SIGNS.matcher(text.substring(0, n));
            if (!m.matches() && !m.hitEnd()) {
                return n - 1;
            }
        }
        return SIGNS.matcher(text).matches() ? -1 : text.length();
    }

    int terms(int k, int n) {
        if (noBond(k) || !in(n, 1, 100) || tape.length() < n) {
            return NONE;
        }
        String text = tape.substring(0, n);
        tape = "";
        Bond next = bonds[k].twin();
        int answer = readTerms(text, next);
        if (answer >= 0) {
            bonds[k] = next;
        }
        return answer;
    }

    /** Numbers of a clause stand left of the first stray byte, so the first wrong one is told ahead of it. */
    private static int readTerms(String text, Bond next) {
        int stray = firstStray(text);
        String good = stray < 0 ? text : text.substring(0, stray);
        List<String> tokens = new ArrayList<>();
        List<Integer> places = new ArrayList<>();
        Matcher m = TOKEN.matcher(good);
        while (m.find()) {
            tokens.add(m.group());
            places.add(m.start());
        }
        int clauses = 0;
        int at = 0;
        while (at < tokens.size()) {
            int[] end = {at + 1};
            while (end[0] < tokens.size() && !Character.isLetter(tokens.get(end[0]).charAt(0))) {
                end[0]++;
            }
            int fault = readClause(tokens.subList(at, end[0]), places.subList(at, end[0]), next);
            if (fault != 0) {
                return fault;
            }
            at = end[0];
            clauses++;
        }
        return stray < 0 ? clauses : -1000 - stray;
    }

    private static int readClause(List<String> tokens, List<Integer> places, Bond next) {
        char letter = tokens.get(0).charAt(0);
        boolean dayFirst = letter == 'c' && tokens.size() > 2;
        int[] numbers = new int[4];
        int found = 0;
        for (int i = 1; i < tokens.size(); i++) {
            if (Character.isDigit(tokens.get(i).charAt(0))) {
                if (tokens.get(i).length() > 7) {
                    return -2000 - places.get(i) - 7;
                }
                numbers[found] = Integer.parseInt(tokens.get(i));
                if (!isThere(letter, dayFirst, found, numbers)) {
                    return -3000 - places.get(i);
                }
                found++;
            }
        }
        boolean dash = tokens.get(tokens.size() - 1).equals("-");
        switch (letter) {
            case 'f':
                next.face = numbers[0];
                break;
            case 'n':
                next.ratio = numbers[0];
                break;
            case 'c':
                if (dayFirst) {
                    next.coupons[numbers[0]] = numbers[1];
                } else {
                    Arrays.fill(next.coupons, 1, 7, numbers[0]);
                }
                break;
            case 'k':
                next.calls[numbers[0]] = dash ? -2 : numbers[1];
                break;
            case 'p':
                next.puts[numbers[0]] = dash ? -2 : numbers[1];
                break;
            case 'w':
                next.x = numbers[0];
                next.y = numbers[1];
                break;
            case 's':
                next.m = numbers[0];
                next.w = numbers[1];
                next.level = numbers[2];
                break;
            default:
                next.way = numbers[0];
                break;
        }
        return 0;
    }

    private static boolean isThere(char letter, boolean dayFirst, int which, int[] numbers) {
        int n = numbers[which];
        switch (letter) {
            case 'f':
                return in(n, 1, 1000000);
            case 'n':
                return in(n, 0, 1000);
            case 'c':
                return dayFirst && which == 0 ? in(n, 1, 6) : in(n, 0, 1000);
            case 'k':
            case 'p':
                return which == 0 ? in(n, 0, 5) : in(n, 0, 1000000);
            case 'w':
                return in(n, 0, 6) && (which == 0 || n >= numbers[0]);
            case 's':
                if (which == 0) {
                    return in(n, 0, 3);
                }
                return which == 1 ? in(n, 1, 3) && n >= numbers[0] : in(n, 0, 1000000);
            default:
                return in(n, 0, 3);
        }
    }

    int told(int k, int what) {
        if (noBond(k)) {
            return NONE;
        }
        Bond b = bonds[k];
        if (in(what, 0, 7)) {
            return new int[] {b.face, b.ratio, b.x, b.y, b.m, b.w, b.level, b.way}[what];
        }
        if (in(what, 11, 16)) {
            return b.coupons[what - 10];
        }
        if (in(what, 20, 25)) {
            return b.calls[what - 20];
        }
        return in(what, 30, 35) ? b.puts[what - 30] : NONE;
    }

    boolean copy(int k, int l) {
        if (noBond(k) || noBond(l) || k == l) {
            return false;
        }
        bonds[l] = bonds[k].twin();
        return true;
    }

    int path(int n) {
        if (!in(n, 0, tree.days) || tape.length() < n) {
            return NONE;
        }
        String moves = tape.substring(0, n);
        tape = "";
        if (!moves.matches("[ud]*")) {
            return -2;
        }
        path = moves;
        return ups(path);
    }

    private int x = 0;

    private String draw(int n) {
        StringBuilder moves = new StringBuilder();
        for (int i = 0; i < n; i++) {
            x = (int) ((25173L * x + 13849L) % 65536L);
            moves.append(x / 4 % tree.q < tree.p ? 'u' : 'd');
        }
        return moves.toString();
    }

    int drawn(int seed, int n) {
        if (!in(n, 0, tree.days)) {
            return NONE;
        }
        x = Math.floorMod(seed, 65536);
        path = draw(n);
        return ups(path);
    }

    int went(int what) {
        if (what == 0) {
            return path.length();
        }
        if (what == 1) {
            return ups(path);
        }
        if (what < 10 || what - 10 >= path.length()) {
            return NONE;
        }
        return path.charAt(what - 10) == 'u' ? 1 : 0;
    }

    long value(int k) {
        return noBond(k) ? NONE : play(k).value(path);
    }

    long here(int k, int what) {
        if (noBond(k) || !in(what, 0, 4)) {
            return NONE;
        }
        Play y = play(k);
        if (what == 0) {
            return y.hold(path);
        }
        if (what == 1) {
            return y.turned(path);
        }
        if (what == 2) {
            return y.free(path) ? 1 : 0;
        }
        return what == 3 ? y.highCount(path) : y.coupon(path);
    }

    int act(int k) {
        return noBond(k) ? NONE : play(k).act(path);
    }

    long along(int k, int what) {
        if (noBond(k) || !in(what, 0, 2)) {
            return NONE;
        }
        Play y = play(k);
        String end = y.end(path);
        if (end == null) {
            return -2;
        }
        if (what == 0) {
            return end.length();
        }
        return what == 1 ? y.act(end) : y.paid(end);
    }

    long without(int k, int some) {
        if (noBond(k) || !in(some, 0, 15)) {
            return NONE;
        }
        Bond b = bonds[k].twin();
        if (some % 2 == 1) {
            Arrays.fill(b.calls, -2);
        }
        if (some / 2 % 2 == 1) {
            Arrays.fill(b.puts, -2);
        }
        if (some / 4 % 2 == 1) {
            b.never = true;
        }
        if (some / 8 == 1) {
            b.m = 0;
        }
        return new Play(tree, b).value("");
    }

    long right(int k, int which) {
        if (noBond(k) || !in(which, 0, 3)) {
            return Long.MIN_VALUE;
        }
        return without(k, 1 << which) - without(k, 0);
    }

    long ends(int k, int act, int what) {
        if (noBond(k) || !in(act, 1, 6) || !in(what, 0, 1)) {
            return NONE;
        }
        return play(k).fraction(act)[what].longValueExact();
    }

    long life(int k, int what) {
        if (noBond(k) || !in(what, 0, 1)) {
            return NONE;
        }
        return play(k).fraction(0)[what].longValueExact();
    }

    int states(int k, int t) {
        return noBond(k) || !in(t, 0, tree.days) ? NONE : play(k).states(t).size();
    }

    int first(int k, int t, boolean called) {
        if (noBond(k) || !in(t, 0, tree.days)) {
            return NONE;
        }
        int fewest = 99;
        for (String s : play(k).come(t)) {
            int act = play(k).act(s);
            boolean fits = called ? act == 3 || act == 4 : act == 2 || act == 6;
            fewest = fits ? Math.min(fewest, ups(s)) : fewest;
        }
        return fewest == 99 ? -2 : fewest;
    }

    long held(int k) {
        return noBond(k) ? Long.MIN_VALUE : play(k).held(path);
    }

    int fairCoupon(int k, long aim) {
        if (noBond(k)) {
            return NONE;
        }
        for (int c = 0; c <= 1000; c++) {
            Bond b = bonds[k].twin();
            Arrays.fill(b.coupons, 1, 7, c);
            if (new Play(tree, b).value("") >= aim) {
                return c;
            }
        }
        return -2;
    }

    int fairRatio(int k, long aim) {
        if (noBond(k)) {
            return NONE;
        }
        for (int r = 0; r <= 1000; r++) {
            Bond b = bonds[k].twin();
            b.ratio = r;
            if (new Play(tree, b).value("") >= aim) {
                return r;
            }
        }
        return -2;
    }

    int fairRate(int k, long aim) {
        if (noBond(k)) {
            return NONE;
        }
        for (int r = 0; r <= 200; r++) {
            Tree t = tree.twin();
            t.rate = r;
            if (new Play(t, bonds[k]).value("") <= aim) {
                return r;
            }
        }
        return -2;
    }

    long bestCall(int k, int pence, int what) {
        return bestDay(k, pence, what, true);
    }

    long bestPut(int k, int pence, int what) {
        return bestDay(k, pence, what, false);
    }

    private long bestDay(int k, int pence, int what, boolean call) {
        if (noBond(k) || !in(pence, 0, 1000000) || !in(what, 0, 1)) {
            return NONE;
        }
        List<Long> values = new ArrayList<>();
        for (int t = 0; t < tree.days; t++) {
            Bond b = bonds[k].twin();
            (call ? b.calls : b.puts)[t] = pence;
            values.add(new Play(tree, b).value(""));
        }
        long best = call ? java.util.Collections.min(values) : java.util.Collections.max(values);
        return what == 0 ? values.indexOf(best) : best;
    }

    long instead(int k, int act) {
        return noBond(k) || !in(act, 0, 3) ? NONE : play(k).instead(path, act);
    }

    long shifted(int k, int s, int p, int q) {
        if (noBond(k) || !in(s, 1, 1000) || !in(q, 2, 20) || !in(p, 1, q - 1)) {
            return NONE;
        }
        Tree t = tree.twin();
        t.start = s;
        t.p = p;
        t.q = q;
        return new Play(t, bonds[k]).value("");
    }

    long open(int k) {
        if (noBond(k)) {
            return NONE;
        }
        hand = new Hand();
        hand.tree = tree.twin();
        hand.bond = bonds[k].twin();
        return new Play(hand.tree, hand.bond).value("");
    }

    int go(boolean up) {
        if (hand == null) {
            return NONE;
        }
        if (hand.over || hand.moves.length() == hand.tree.days) {
            return -2;
        }
        Play y = new Play(hand.tree, hand.bond);
        hand.regret += Math.abs(y.value(hand.moves) - y.instead(hand.moves, 0));
        hand.moves += up ? "u" : "d";
        hand.paid += y.coupon(hand.moves);
        return hand.moves.length();
    }

    long does(int act) {
        if (hand == null || !in(act, 0, 3)) {
            return NONE;
        }
        Play y = new Play(hand.tree, hand.bond);
        if (hand.over || act == 0 && !y.last(hand.moves)) {
            return -2;
        }
        long gives = y.instead(hand.moves, act);
        if (gives == -2) {
            return -3;
        }
        hand.regret += Math.abs(y.value(hand.moves) - gives);
        hand.paid += gives - y.coupon(hand.moves);
        hand.over = true;
        return hand.paid;
    }

    long byHand(int what) {
        if (hand == null || !in(what, 0, 4)) {
            return NONE;
        }
        if (what == 0) {
            return hand.over ? 0 : 1;
        }
        if (what == 1) {
            return hand.moves.length();
        }
        if (what == 4) {
            return new Play(hand.tree, hand.bond).act(hand.moves);
        }
        return what == 2 ? hand.paid : hand.regret;
    }

    long byRule(int k, int turnAt, int callAt, boolean act) {
        if (noBond(k) || !in(turnAt, 0, 1000000) || !in(callAt, 0, 1000000)) {
            return NONE;
        }
        return act ? play(k).ruleAct(path, turnAt, callAt) : play(k).ruleValue("", turnAt, callAt);
    }

    long run(int k, int seed, int n) {
        if (noBond(k) || !in(n, 1, 100)) {
            return NONE;
        }
        x = Math.floorMod(seed, 65536);
        Play y = play(k);
        long all = 0;
        for (int i = 0; i < n; i++) {
            all += y.paid(y.end(draw(tree.days)));
        }
        return all;
    }

    long extreme(int k, boolean most, int what) {
        if (noBond(k) || !in(what, 0, 1)) {
            return NONE;
        }
        Play y = play(k);
        List<Long> paid = new ArrayList<>();
        for (int bits = 0; bits < 1 << tree.days; bits++) {
            StringBuilder s = new StringBuilder();
            for (int i = 0; i < tree.days; i++) {
                s.append((bits >> i) % 2 == 1 ? 'u' : 'd');
            }
            paid.add(y.paid(y.end(s.toString())));
        }
        long best = most ? java.util.Collections.max(paid) : java.util.Collections.min(paid);
        return what == 0 ? best : paid.indexOf(best);
    }

    int days(int k, int act) {
        if (noBond(k) || !in(act, 0, 6)) {
            return NONE;
        }
        int bits = 0;
        for (int t = 0; t <= tree.days; t++) {
            for (String s : play(k).come(t)) {
                if (play(k).act(s) == act) {
                    bits |= 1 << t;
                }
            }
        }
        return bits;
    }

    long table(int k, int t, int i, int what) {
        if (noBond(k) || !in(t, 0, tree.days) || i < 0 || !in(what, 0, 4)) {
            return NONE;
        }
        List<String> states = play(k).states(t);
        if (i >= states.size()) {
            return -2;
        }
        String[] parts = states.get(i).split(" ");
        if (what < 3) {
            return Integer.parseInt(parts[what]);
        }
        String row = parts[3].substring(0, parts[3].length() - 1);
        return what == 3 ? play(k).value(row) : play(k).act(row);
    }

    long hedged(int k) {
        if (noBond(k)) {
            return Long.MIN_VALUE;
        }
        Play y = play(k);
        if (y.end(path) == null) {
            return -2;
        }
        String end = y.end(path);
        BigInteger cash = big(y.value(""));
        BigInteger shares = BigInteger.ZERO;
        for (int t = 0; t < end.length(); t++) {
            String s = end.substring(0, t);
            long wanted = tree.pence(s + "u") == tree.pence(s + "d") ? 0
                    : Math.max(-100000, Math.min(100000, y.held(s)));
            BigInteger bought = big(wanted).subtract(shares).multiply(big(tree.pence(s))).divide(big(1000));
            shares = big(wanted);
            cash = cash.subtract(bought).multiply(big(1000 + tree.rate)).divide(big(1000));
            cash = cash.subtract(big(bonds[k].coupons[t + 1]));
        }
        BigInteger sold = shares.multiply(big(tree.pence(end))).divide(big(1000));
        return cash.add(sold).subtract(big(y.pays(end))).longValueExact();
    }

    String text(int k) {
        Bond b = bonds[k];
        String text = "f" + b.face + "n" + b.ratio;
        for (int t = 1; t <= 6; t++) {
            text += b.coupons[t] == 0 ? "" : "c" + t + ":" + b.coupons[t];
        }
        for (int t = 0; t <= 5; t++) {
            text += b.calls[t] == -2 ? "" : "k" + t + ":" + b.calls[t];
        }
        for (int t = 0; t <= 5; t++) {
            text += b.puts[t] == -2 ? "" : "p" + t + ":" + b.puts[t];
        }
        return text + "w" + b.x + "-" + b.y + "s" + b.m + "/" + b.w + "/" + b.level + "z" + b.way;
    }

    int letter(int k, int i) {
        if (noBond(k) || i < -1) {
            return NONE;
        }
        String text = text(k);
        if (i == -1) {
            return text.length();
        }
        return i < text.length() ? text.charAt(i) : -2;
    }

    int alike(int k, int l, int what) {
        if (noBond(k) || noBond(l) || !in(what, 0, 1)) {
            return NONE;
        }
        List<String> rows = new ArrayList<>(List.of(""));
        for (int t = 0; t <= tree.days; t++) {
            List<String> next = new ArrayList<>();
            for (String s : rows) {
                if (play(k).value(s) != play(l).value(s)) {
                    return what == 0 ? 0 : t;
                }
                next.add(s + "u");
                next.add(s + "d");
            }
            rows = next;
        }
        return what == 0 ? 1 : -2;
    }

    int best(boolean most) {
        int best = 0;
        for (int k = 1; k < 3; k++) {
            long apart = play(k).value("") - play(best).value("");
            if (most && apart > 0 || !most && apart < 0) {
                best = k;
            }
        }
        return best;
    }

    long book(int n, int m, int l) {
        if (!in(n, -100, 100) || !in(m, -100, 100) || !in(l, -100, 100)) {
            return Long.MIN_VALUE;
        }
        return n * play(0).value("") + m * play(1).value("") + l * play(2).value("");
    }

    int count(int what) {
        int[] all = {tree.days, tree.start, tree.a, tree.b, tree.c, tree.d, tree.p, tree.q, tree.rate,
            tape.length(), saved.size()};
        return in(what, 0, 10) ? all[what] : NONE;
    }

    int keep() {
        if (saved.size() == 8) {
            return NONE;
        }
        Saved s = new Saved();
        s.tree = tree.twin();
        s.bonds = new Bond[] {bonds[0].twin(), bonds[1].twin(), bonds[2].twin()};
        s.path = path;
        s.hand = hand == null ? null : hand.twin();
        saved.add(s);
        return saved.size();
    }

    int undo() {
        if (saved.isEmpty()) {
            return NONE;
        }
        Saved s = saved.remove(saved.size() - 1);
        tree = s.tree;
        bonds = s.bonds;
        path = s.path;
        hand = s.hand;
        return saved.size();
    }
}
