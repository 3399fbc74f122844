/** For each promise of the document: ordinary inputs, the edges that it names, wrong inputs; all worked out by hand. */
public final class PromiseTest {
    private static final long NO_LONG = Long.MIN_VALUE;
    private static final Check CHECK = new Check();

    private static void due(String what, long got, long want) {
        CHECK.due(what, got, want);
    }

    private static void yes(String what, boolean got) {
        CHECK.due(what, got, true);
    }

    private static void no(String what, boolean got) {
        CHECK.due(what, got, false);
    }

    /** An object over one DAY: 10000 pence, then 12000 or 8333. */
    private static TurnedBonds oneDay() {
        TurnedBonds x = new TurnedBonds();
        x.tree(1, 100);
        return x;
    }

    private static TurnedBonds onPath(TurnedBonds x, String moves) {
        x.path(0);
        Check.feed(x, moves);
        due("path of " + moves, x.path(moves.length()), moves.replace("d", "").length());
        return x;
    }

    private static int tell(TurnedBonds x, int k, String text) {
        x.path(0);
        Check.feed(x, text);
        return x.terms(k, text.length());
    }

    private static String letters(TurnedBonds x, int k) {
        StringBuilder text = new StringBuilder();
        int n = x.letter(k, -1);
        for (int i = 0; i < n; i++) {
            text.append((char) x.letter(k, i));
        }
        return text.toString();
    }

    private static void newObject01() {
        TurnedBonds x = new TurnedBonds();
        int[] counts = {3, 100, 6, 5, 5, 6, 1, 2, 0, 0, 0};
        for (int what = 0; what < counts.length; what++) {
            due("1: count(" + what + ")", x.count(what), counts[what]);
        }
        for (int k = 0; k < 3; k++) {
            yes("1: terms of " + k, letters(x, k).equals("f10000n100w0-6s0/1/0z0"));
        }
        due("1: THE PATH", x.went(0), 0);
        due("1: BY HAND", x.byHand(0), -1);
        due("1: NONE", TurnedBonds.NONE, -1);
    }

    private static void feed02() {
        TurnedBonds x = new TurnedBonds();
        for (int n = 20; n <= 200; n += 20) {
            due("2: feed", x.feed(0, 0, 0, 0, 0), n);
        }
        due("2: feed beyond 200", x.feed(0, 0, 0, 0, 0), -1);
        due("2: the tape stays", x.count(9), 200);
        x = new TurnedBonds();
        x.tree(6, 100);
        x.feed('u' << 24 | 'd' << 16 | 'd' << 8 | 'u', 'd' << 24 | 'u' << 16, 0, 0, 0);
        due("2: highest byte first", x.path(6), 3);
        int[] moves = {1, 0, 0, 1, 0, 1};
        for (int i = 0; i < 6; i++) {
            due("2: byte " + i, x.went(10 + i), moves[i]);
        }
        x.feed(0, 0, 0, 0, 0x66312020);
        due("2: the tape goes on behind", x.feed(0x66312020, 0, 0, 0, 0), 40);
        x = new TurnedBonds();
        Check.feed(x, "f1n2f3n4f5n6f7n8f9n1z1z2z3");
        due("2: two feeds", x.terms(0, 26), 13);
    }

    private static void tree03() {
        TurnedBonds x = onPath(new TurnedBonds(), "uu");
        no("3: no DAYS", x.tree(0, 1));
        no("3: 7 DAYS", x.tree(7, 1));
        no("3: no pounds", x.tree(3, 0));
        no("3: 1001 pounds", x.tree(3, 1001));
        due("3: all stays", x.count(0) * 10000 + x.count(1), 30100);
        due("3: THE PATH stays", x.went(0), 2);
        yes("3: most", x.tree(6, 1000));
        due("3: T", x.count(0), 6);
        due("3: S", x.count(1), 1000);
        due("3: THE PATH is empty", x.went(0), 0);
        yes("3: least", x.tree(1, 1));
        due("3: S in pence", x.price(0, 0, 0), 100);
    }

    private static void move04() {
        TurnedBonds x = new TurnedBonds();
        int[][] wrong = {{0, 1}, {1, 0}, {21, 1}, {1, 21}, {-1, -1}};
        for (int[] w : wrong) {
            no("4: up", x.move(true, w[0], w[1]));
            no("4: down", x.move(false, w[0], w[1]));
        }
        due("4: all stays", x.count(2) * 1000 + x.count(3) * 100 + x.count(4) * 10 + x.count(5), 6556);
        yes("4: up", x.move(true, 20, 1));
        yes("4: down", x.move(false, 1, 20));
        due("4: a", x.count(2), 20);
        due("4: b", x.count(3), 1);
        due("4: c", x.count(4), 1);
        due("4: d", x.count(5), 20);
        due("4: up", x.price(1, 1, 0), 200000);
        due("4: down", x.price(1, 0, 0), 500);
        due("4: both", x.price(2, 1, 0), 10000);
    }

    private static void chance05() {
        TurnedBonds x = new TurnedBonds();
        int[][] wrong = {{0, 2}, {2, 2}, {1, 1}, {1, 21}, {20, 20}, {-1, 5}, {3, 2}};
        for (int[] w : wrong) {
            no("5: " + w[0] + " in " + w[1], x.chance(w[0], w[1]));
        }
        due("5: all stays", x.count(6) * 10 + x.count(7), 12);
        yes("5: 19 in 20", x.chance(19, 20));
        yes("5: 1 in 20", x.chance(1, 20));
        yes("5: 3 in 4", x.chance(3, 4));
        due("5: p", x.count(6), 3);
        due("5: q", x.count(7), 4);
        // 17280 12000 10000 10000; 15960 11500 10000; 14845 11125; 13915
        due("5: value", x.value(0), 13915);
    }

    private static void rate06() {
        TurnedBonds x = new TurnedBonds();
        due("6: first", x.rate(200), 0);
        due("6: too high", x.rate(201), -1);
        due("6: too low", x.rate(-1), -1);
        due("6: then", x.rate(100), 200);
        due("6: count", x.count(8), 100);
        x.bond(0, 10000, 0);
        due("6: 10000, 9090, 8263, 7511", x.value(0), 7511);
        due("6: back", x.rate(0), 100);
    }

    private static void price07() {
        TurnedBonds x = new TurnedBonds();
        due("7: pence cut down", x.price(3, 0, 0), 5787);
        due("7: top", x.price(3, 0, 1), 3125);
        due("7: bottom", x.price(3, 0, 2), 54);
        due("7: whole", x.price(2, 1, 1), 100);
        due("7: through 1", x.price(2, 1, 2), 1);
        int[][] wrong = {{4, 0, 0}, {-1, 0, 0}, {1, 2, 0}, {1, -1, 0}, {1, 1, 3}, {1, 1, -1}};
        for (int[] w : wrong) {
            due("7: wrong", x.price(w[0], w[1], w[2]), -1);
        }
        x.tree(6, 1000);
        x.move(true, 20, 1);
        x.move(false, 1, 20);
        due("7: highest", x.price(6, 6, 0), 6400000000000L);
        due("7: highest top", x.price(6, 6, 1), 64000000000L);
        due("7: 1000 / 64000000 in pence", x.price(6, 0, 0), 0);
        due("7: in lowest terms, top", x.price(6, 0, 1), 1);
        due("7: in lowest terms, bottom", x.price(6, 0, 2), 64000);
    }

    private static void bond08() {
        TurnedBonds x = new TurnedBonds();
        int[][] wrong = {{-1, 1, 1}, {3, 1, 1}, {0, 0, 1}, {0, 1000001, 1}, {0, 1, -1}, {0, 1, 1001}};
        for (int[] w : wrong) {
            no("8: wrong", x.bond(w[0], w[1], w[2]));
        }
        due("8: stays", x.told(0, 0), 10000);
        yes("8: most", x.bond(2, 1000000, 1000));
        due("8: FACE", x.told(2, 0), 1000000);
        due("8: RATIO", x.told(2, 1), 1000);
        due("8: only that one", x.told(1, 0), 10000);
        yes("8: least", x.bond(2, 1, 0));
        due("8: FACE at the end", x.value(2), 1);
    }

    private static void coupon09() {
        TurnedBonds x = new TurnedBonds();
        int[][] wrong = {{3, 1, 1}, {-1, 1, 1}, {0, 0, 1}, {0, 7, 1}, {0, 1, -1}, {0, 1, 1001}};
        for (int[] w : wrong) {
            due("9: wrong", x.coupon(w[0], w[1], w[2]), -1);
        }
        due("9: first", x.coupon(0, 6, 1000), 0);
        due("9: then", x.coupon(0, 6, 5), 1000);
        due("9: told", x.told(0, 16), 5);
        due("9: of a DAY behind T it is not paid", x.value(0), 11660);
        x.coupon(0, 3, 40);
        due("9: paid on T", x.value(0), 11700);
        x.coupon(0, 1, 2);
        due("9: paid on DAY 1", x.value(0), 11702);
    }

    private static void call10() {
        TurnedBonds x = new TurnedBonds();
        int[][] wrong = {{3, 1, 1}, {-1, 1, 1}, {0, 6, 1}, {0, -1, 1}, {0, 1, -2}, {0, 1, 1000001}};
        for (int[] w : wrong) {
            due("10: wrong", x.call(w[0], w[1], w[2]), -1);
        }
        due("10: first", x.call(0, 5, 1000000), -2);
        due("10: then", x.call(0, 5, 0), 1000000);
        due("10: none again", x.call(0, 5, -1), 0);
        due("10: none", x.call(0, 5, -1), -2);
        due("10: told", x.told(0, 25), -2);
        x.call(0, 2, 11000);
        due("10: DAY 2 up up: 14400 for 14640", x.value(0), 11600);
        x.call(0, 0, 0);
        due("10: turned when called on DAY 0", x.value(0), 10000);
        x.call(0, 3, 0);
        due("10: on T it is not called", onPath(x, "ddd").value(0), 10000);
    }

    private static void put11() {
        TurnedBonds x = new TurnedBonds();
        int[][] wrong = {{3, 1, 1}, {-1, 1, 1}, {0, 6, 1}, {0, -1, 1}, {0, 1, -2}, {0, 1, 1000001}};
        for (int[] w : wrong) {
            due("11: wrong", x.put(w[0], w[1], w[2]), -1);
        }
        due("11: first", x.put(0, 5, 1000000), -2);
        due("11: then", x.put(0, 5, 0), 1000000);
        due("11: none again", x.put(0, 5, -1), 0);
        due("11: none", x.told(0, 35), -2);
        x.put(0, 1, 10600);
        due("11: DAY 1 down: 10600 for 10500", x.value(0), 11710);
        x.put(0, 1, -1);
        x.put(0, 3, 20000);
        due("11: on T it is not put", x.value(0), 11660);
    }

    private static void window12() {
        TurnedBonds x = new TurnedBonds();
        int[][] wrong = {{3, 0, 1}, {-1, 0, 1}, {0, -1, 1}, {0, 0, 7}, {0, 3, 2}, {0, 7, 7}};
        for (int[] w : wrong) {
            no("12: wrong", x.window(w[0], w[1], w[2]));
        }
        due("12: stays", x.told(0, 3), 6);
        yes("12: one DAY", x.window(0, 2, 2));
        due("12: from", x.told(0, 2), 2);
        due("12: to", x.told(0, 3), 2);
        // DAY 2: 14400 turned, else 10000 of T; 12200 10000; 11100
        due("12: value", x.value(0), 11100);
        due("12: not on DAY 0", x.here(0, 1), -2);
        due("12: on DAY 2", onPath(x, "uu").here(0, 1), 14400);
        due("12: not on DAY 3", onPath(x, "uuu").here(0, 1), -2);
        yes("12: all", x.window(0, 0, 6));
        yes("12: the last", x.window(0, 6, 6));
        yes("12: the first", x.window(0, 0, 0));
    }

    private static void soft13() {
        TurnedBonds x = new TurnedBonds();
        int[][] wrong = {{3, 0, 1, 0}, {-1, 0, 1, 0}, {0, -1, 1, 0}, {0, 2, 1, 0}, {0, 0, 0, 0}, {0, 0, 4, 0},
            {0, 0, 1, -1}, {0, 0, 1, 1000001}};
        for (int[] w : wrong) {
            no("13: wrong", x.soft(w[0], w[1], w[2], w[3]));
        }
        due("13: stays", x.told(0, 5), 1);
        yes("13: most", x.soft(0, 3, 3, 1000000));
        due("13: m", x.told(0, 4), 3);
        due("13: w", x.told(0, 5), 3);
        due("13: L", x.told(0, 6), 1000000);
        x.call(0, 2, 11000);
        due("13: never free", x.value(0), 11660);
        x.soft(0, 3, 3, 10000);
        due("13: 10000 12000 14400", x.value(0), 11600);
        x.soft(0, 3, 3, 10001);
        due("13: not 10000", x.value(0), 11660);
        x.soft(0, 2, 3, 10001);
        due("13: two of three", x.value(0), 11600);
        x.soft(0, 2, 2, 12000);
        due("13: L or more", x.value(0), 11600);
        x.soft(0, 2, 2, 12001);
        due("13: one of two", x.value(0), 11660);
        x.soft(0, 2, 2, 0);
        x.call(0, 0, 0);
        due("13: there is no DAY ahead of DAY 0", x.here(0, 2), 0);
    }

    private static void settle14() {
        TurnedBonds x = new TurnedBonds();
        due("14: no such BOND", x.settle(3, 0), -1);
        due("14: no such BOND", x.settle(-1, 0), -1);
        due("14: 4", x.settle(0, 4), -1);
        due("14: below 0", x.settle(0, -1), -1);
        long[][] wants = {{12000, 8333, 10000}, {11000, 9166, 10000}, {11000, 8333, 10000}, {12000, 9166, 10000}};
        for (int way = 0; way <= 3; way++) {
            due("14: what it was", x.settle(0, way), way == 0 ? 0 : way - 1);
            due("14: told", x.told(0, 7), way);
            due("14: up, " + way, onPath(x, "u").here(0, 1), wants[way][0]);
            due("14: down, " + way, onPath(x, "d").here(0, 1), wants[way][1]);
            due("14: DAY 0, " + way, onPath(x, "").here(0, 1), wants[way][2]);
        }
        x.bond(0, 10000, 33);
        x.settle(0, 0);
        due("14: cut down, 2749.89", onPath(x, "d").here(0, 1), 2749);
        x.settle(0, 1);
        due("14: cut down, 3024.945", x.here(0, 1), 3024);
    }

    private static void terms15() {
        TurnedBonds x = new TurnedBonds();
        due("15: no tape", x.terms(0, 1), -1);
        Check.feed(x, "f1");
        due("15: no BOND", x.terms(3, 1), -1);
        due("15: no BOND", x.terms(-1, 1), -1);
        due("15: no bytes", x.terms(0, 0), -1);
        due("15: more than fed", x.terms(0, 21), -1);
        due("15: the tape stays", x.count(9), 20);
        due("15: one", x.terms(0, 2), 1);
        due("15: the tape is empty", x.count(9), 0);
        due("15: FACE", x.told(0, 0), 1);
        for (int i = 0; i < 6; i++) {
            x.feed(0x20202020, 0x20202020, 0x20202020, 0x20202020, 0x20202020);
        }
        due("15: 101", x.terms(0, 101), -1);
        due("15: 100 blanks tell nothing", x.terms(0, 100), 0);
        due("15: all", tell(x, 1, " f 9999 n5c7 c 2 : 30k0:1 k 5:1000000p3:0w1-5s2/3/1000000 z3 "), 10);
        yes("15: all told", letters(x, 1).equals("f9999n5c1:7c2:30c3:7c4:7c5:7c6:7k0:1k5:1000000p3:0w1-5s2/3/1000000z3"));
        due("15: none", tell(x, 1, "k0:-k 5 : - p3 :-"), 3);
        yes("15: the others stay", letters(x, 1).equals("f9999n5c1:7c2:30c3:7c4:7c5:7c6:7w1-5s2/3/1000000z3"));
        due("15: the latter counts", tell(x, 1, "f1c3:5c0f2"), 4);
        yes("15: the latter", letters(x, 1).equals("f2n5w1-5s2/3/1000000z3"));
        due("15: blanks only", tell(x, 1, "  "), 0);
        due("15: seven digits", tell(x, 1, "f0000012n0001000c0000100"), 3);
        due("15: coupon", x.told(1, 16), 100);
        due("15: the least and the most", tell(x, 1, "f1n0c1000w0-0s0/1/0z0k0:0"), 7);
        yes("15: told", letters(x, 1).equals("f1n0c1:1000c2:1000c3:1000c4:1000c5:1000c6:1000k0:0w0-0s0/1/0z0"));
        due("15: all that is fed", tell(x, 1, "f1000000n1000 s3/3/1"), 3);
    }

    private static void faults15() {
        TurnedBonds x = new TurnedBonds();
        String before = letters(x, 0);
        Object[][] faults = {
            {"x", -1000}, {"f", -1001}, {" f ", -1003}, {"fx", -1001}, {"f1x", -1002}, {"f1 2", -1003}, {"1", -1000},
            {"f-1", -1001}, {"F1", -1000}, {"k", -1001}, {"k1", -1002}, {"k1:", -1003}, {"k1 2", -1003}, {"k12:3", -1002},
            {"k1:x", -1003}, {"k1:--", -1004}, {"k:1", -1001}, {"w1", -1002}, {"w1:2", -1002}, {"w1-", -1003},
            {"w1-23", -1004}, {"s1/2", -1004}, {"s1-2/3", -1002}, {"s1/2/", -1005}, {"s1/2/-", -1005}, {"z", -1001},
            {"z12", -1002}, {"c", -1001}, {"c12:3", -1003}, {"c1:", -1003}, {"c1:2:3", -1004}, {"f1,n1", -1002},
            {"f12345678", -2008}, {"f00000000", -2008}, {"n 12345678", -2009}, {"k1:12345678", -2010},
            {"c12345678", -2008}, {"f99999999x", -2008},
            {"f0", -3001}, {"f 1000001", -3002}, {"f0x", -3001}, {"f9999999", -3001}, {"n1001", -3001}, {"c1001", -3001},
            {"c1001:", -3001}, {"c0:1", -3001}, {"c 7 : 1", -3002}, {"c7:", -3001}, {"c7:x", -3001}, {"c1:1001", -3003},
            {"k6:1", -3001}, {"k6", -3001}, {"k6x", -3001}, {"p6:-", -3001}, {"k5:1000001", -3003}, {"w7-7", -3001},
            {"w3-2", -3003}, {"w3-7", -3003}, {"s4/3/0", -3001}, {"s2/1/0", -3003}, {"s0/0/0", -3003},
            {"s0/4/0", -3003}, {"s0/1/1000001", -3005}, {"z4", -3001}, {"z45", -3001}, {"f5n1001", -3003},
            {"f5 n2000 x", -3004}, {"f\u00e91", -1001}};
        for (Object[] f : faults) {
            due("15: '" + f[0] + "'", tell(x, 0, (String) f[0]), (Integer) f[1]);
            due("15: the tape is empty", x.count(9), 0);
        }
        yes("15: all stay with a FAULT", letters(x, 0).equals(before));
        due("15: c of one digit", tell(x, 0, "c7"), 1);
        due("15: c of one digit, blanks, another", tell(x, 0, "c 9  f1"), 2);
        due("15: 9 for all", x.told(0, 11), 9);
    }

    private static void told16() {
        TurnedBonds x = new TurnedBonds();
        tell(x, 2, "f5n6w1-2s1/2/33z3c1:11c6:16k0:20k5:25p0:30p5:35");
        int[][] wants = {{0, 5}, {1, 6}, {2, 1}, {3, 2}, {4, 1}, {5, 2}, {6, 33}, {7, 3}, {8, -1}, {9, -1}, {10, -1},
            {11, 11}, {12, 0}, {16, 16}, {17, -1}, {19, -1}, {20, 20}, {21, -2}, {25, 25}, {26, -1}, {29, -1},
            {30, 30}, {31, -2}, {35, 35}, {36, -1}, {-1, -1}};
        for (int[] w : wants) {
            due("16: told(2, " + w[0] + ")", x.told(2, w[0]), w[1]);
        }
        due("16: no BOND", x.told(3, 0), -1);
        due("16: no BOND", x.told(-1, 0), -1);
    }

    private static void copy17() {
        TurnedBonds x = new TurnedBonds();
        String text = "f5n6c1:11k0:20p5:35w1-2s1/2/33z3";
        tell(x, 0, text);
        no("17: itself", x.copy(0, 0));
        no("17: from none", x.copy(3, 0));
        no("17: to none", x.copy(0, -1));
        yes("17: copy", x.copy(0, 2));
        yes("17: alike", letters(x, 2).equals(text));
        yes("17: the third stays", letters(x, 1).equals("f10000n100w0-6s0/1/0z0"));
        x.bond(2, 7, 7);
        x.call(2, 0, 1);
        yes("17: apart", letters(x, 0).equals(text));
    }

    private static void path18() {
        TurnedBonds x = new TurnedBonds();
        due("18: none fed", x.path(1), -1);
        due("18: empty", x.path(0), 0);
        Check.feed(x, "udxuuu");
        due("18: beyond T", x.path(4), -1);
        due("18: below 0", x.path(-1), -1);
        due("18: the tape stays", x.count(9), 20);
        due("18: up down", x.path(2), 1);
        due("18: the tape is empty", x.count(9), 0);
        Check.feed(x, "udxuuu");
        due("18: another byte", x.path(3), -2);
        due("18: THE PATH stays", x.went(0), 2);
        due("18: but the tape is empty", x.count(9), 0);
        due("18: not so many", x.path(1), -1);
        Check.feed(x, "U");
        due("18: U is not u", x.path(1), -2);
        Check.feed(x, "ddd");
        due("18: all down", x.path(3), 0);
        due("18: three", x.went(0), 3);
        Check.feed(x, "u");
        due("18: none of the tape", x.path(0), 0);
        due("18: THE PATH is empty", x.went(0), 0);
        due("18: the tape, too", x.count(9), 0);
    }

    private static void drawn19() {
        TurnedBonds x = new TurnedBonds();
        x.tree(6, 100);
        due("19: too many", x.drawn(1, 7), -1);
        due("19: below 0", x.drawn(1, -1), -1);
        // seed 7: X 58988 4085 19570 15347 9160 42881; through 4: 14747 1021 4892 3836 2290 10720
        due("19: of 2", x.drawn(7, 6), 4);
        int[] moves = {0, 0, 1, 1, 1, 1};
        for (int i = 0; i < 6; i++) {
            due("19: move " + i, x.went(10 + i), moves[i]);
        }
        due("19: the lowest 16 bits", x.drawn(7 + 65536 * 5, 6), 4);
        due("19: of a seed below 0, too", x.drawn(7 - 65536, 5), 3);
        x.chance(2, 3);
        // modulo 3: 2 1 2 2 1 1
        due("19: of 3", x.drawn(7, 6), 3);
        due("19: the first is down", x.went(10), 0);
        due("19: the second is up", x.went(11), 1);
        due("19: none", x.drawn(7, 0), 0);
        due("19: empty", x.went(0), 0);
    }

    private static void went20() {
        TurnedBonds x = onPath(new TurnedBonds(), "ud");
        due("20: moves", x.went(0), 2);
        due("20: up", x.went(1), 1);
        due("20: first", x.went(10), 1);
        due("20: second", x.went(11), 0);
        for (int wrong : new int[] {-1, 2, 9, 12, 16, Integer.MAX_VALUE}) {
            due("20: went(" + wrong + ")", x.went(wrong), -1);
        }
    }

    private static void value21() {
        TurnedBonds x = new TurnedBonds();
        due("21: DAY 0", x.value(0), 11660);
        due("21: up", onPath(x, "u").value(0), 12820);
        due("21: on T", onPath(x, "uuu").value(0), 17280);
        due("21: FACE", onPath(x, "ddd").value(0), 10000);
        due("21: no BOND", x.value(3), -1);
        due("21: no BOND", x.value(-1), -1);
        x.coupon(0, 3, 7);
        due("21: COUPON too", x.value(0), 10007);
    }

    private static void here22() {
        TurnedBonds x = new TurnedBonds();
        tell(x, 0, "k1:5 k3:6 s2/2/10000 w0-2 c1:9");
        // behind up stand 14400 turned on DAY 2 and 10000 of T
        long[] wants = {12200, 12000, 1, 2, 9};
        onPath(x, "u");
        for (int what = 0; what < 5; what++) {
            due("22: up, " + what, x.here(0, what), wants[what]);
        }
        onPath(x, "d");
        due("22: one of two", x.here(0, 3), 1);
        due("22: not free", x.here(0, 2), 0);
        onPath(x, "dd");
        due("22: none of two", x.here(0, 3), 0);
        due("22: no CALL", x.here(0, 2), 0);
        onPath(x, "uuu");
        due("22: no HOLD on T", x.here(0, 0), -2);
        due("22: not in WINDOW", x.here(0, 1), -2);
        due("22: a CALL of T is free", x.here(0, 2), 1);
        due("22: no COUPON", x.here(0, 4), 0);
        x.call(0, 3, 0);
        x.window(0, 0, 0);
        due("22: at 0 pence, too", x.here(0, 2), 1);
        due("22: what 5", x.here(0, 5), -1);
        due("22: what -1", x.here(0, -1), -1);
        due("22: no BOND", x.here(3, 0), -1);
    }

    private static void act23() {
        TurnedBonds x = oneDay();
        due("23: 0", x.act(0), 0);
        due("23: 6", onPath(x, "u").act(0), 6);
        due("23: 5", onPath(x, "d").act(0), 5);
        x.bond(0, 12000, 100);
        due("23: 5, alike", onPath(x, "u").act(0), 5);
        onPath(x, "");
        x.bond(0, 10000, 100);
        // HOLD 11000, TURNED 10000
        x.call(0, 0, 11000);
        due("23: 0, CALL gives as much", x.act(0), 0);
        x.call(0, 0, 10999);
        due("23: 3", x.act(0), 3);
        x.call(0, 0, 10000);
        due("23: 3, TURNED as much", x.act(0), 3);
        x.call(0, 0, 9999);
        due("23: 4", x.act(0), 4);
        x.put(0, 0, 10000);
        due("23: 4, PUT no more", x.act(0), 4);
        x.put(0, 0, 10001);
        due("23: 1, PUT more than CALLED gives", x.act(0), 1);
        due("23: and that is its VALUE", x.value(0), 10001);
        x.call(0, 0, -1);
        due("23: 0, PUT less than HOLD", x.act(0), 0);
        x.put(0, 0, 11000);
        due("23: 0, PUT as much as HOLD", x.act(0), 0);
        x.put(0, 0, 11001);
        due("23: 1", x.act(0), 1);
        x.rate(200);
        x.put(0, 0, 10000);
        // HOLD 9166
        due("23: 1, PUT no less than TURNED", x.act(0), 1);
        x.put(0, 0, 9999);
        due("23: 2", x.act(0), 2);
        x.put(0, 0, -1);
        due("23: 2, no PUT", x.act(0), 2);
        x.window(0, 1, 6);
        due("23: 0, not in WINDOW", x.act(0), 0);
        x.put(0, 0, 9167);
        due("23: 1, not in WINDOW", x.act(0), 1);
        due("23: no BOND", x.act(3), -1);
        TurnedBonds y = oneDay();
        tell(y, 0, "n0 k0:0");
        due("23: called at 0", y.act(0), 3);
        due("23: for nothing", y.value(0), 0);
    }

    private static void along24() {
        TurnedBonds x = new TurnedBonds();
        tell(x, 0, "k2:11500 p1:10600 c1:3 c2:50 c3:700");
        onPath(x, "uuu");
        due("24: called on DAY 2", x.along(0, 0), 2);
        due("24: and turned", x.along(0, 1), 4);
        // up down holds 11700: called at 11500
        due("24: 14400 and both COUPONS", x.along(0, 2), 14453);
        onPath(x, "udu");
        due("24: called and paid", x.along(0, 2), 11553);
        x.call(0, 2, 11700);
        due("24: on T", x.along(0, 0), 3);
        due("24: turned", x.along(0, 1), 6);
        due("24: 12000", x.along(0, 2), 12753);
        x.put(0, 1, 20000);
        due("24: PUT", x.along(0, 2), 20003);
        due("24: on DAY 1", x.along(0, 0), 1);
        onPath(x, "");
        for (int what = 0; what < 3; what++) {
            due("24: it goes on", x.along(0, what), -2);
        }
        due("24: what 3", x.along(0, 3), -1);
        due("24: what -1", x.along(0, -1), -1);
        due("24: no BOND", x.along(3, 0), -1);
        x.call(0, 0, 1);
        due("24: on DAY 0", x.along(0, 0), 0);
        due("24: no COUPON", x.along(0, 2), 10000);
    }

    private static void without25() {
        TurnedBonds x = new TurnedBonds();
        tell(x, 0, "k2:11000 p1:10600 s1/1/1000000");
        due("25: all rights", x.without(0, 0), 11710);
        due("25: no PUTS", x.without(0, 2), 11660);
        due("25: SOFT gone", x.without(0, 8), 11650);
        due("25: neither", x.without(0, 10), 11600);
        due("25: no CALLS, SOFT gone", x.without(0, 9), 11710);
        due("25: turning gone: PUT on DAY 1", x.without(0, 4), 10600);
        due("25: all gone", x.without(0, 15), 10000);
        due("25: the BOND stays", x.value(0), 11710);
        onPath(x, "uu");
        due("25: on DAY 0 whatever THE PATH", x.without(0, 0), 11710);
        due("25: 16", x.without(0, 16), -1);
        due("25: -1", x.without(0, -1), -1);
        due("25: no BOND", x.without(3, 0), -1);
        x.call(0, 2, 9000);
        x.soft(0, 0, 1, 0);
        due("25: CALLED without turning: 9000", x.without(0, 6), 9000);
    }

    private static void right26() {
        TurnedBonds x = new TurnedBonds();
        tell(x, 0, "k2:11000 p1:10600 s1/1/14400");
        due("26: CALLS", x.right(0, 0), 60);
        due("26: PUTS", x.right(0, 1), -50);
        due("26: turning", x.right(0, 2), 10600 - 11650);
        due("26: SOFT", x.right(0, 3), 0);
        x.soft(0, 1, 1, 14401);
        due("26: SOFT", x.right(0, 3), -60);
        due("26: 4", x.right(0, 4), NO_LONG);
        due("26: -1", x.right(0, -1), NO_LONG);
        due("26: no BOND", x.right(3, 0), NO_LONG);
    }

    private static void ends27() {
        TurnedBonds x = new TurnedBonds();
        x.chance(2, 3);
        tell(x, 0, "k2:11400 p1:10900");
        // d: 1 / 3 put for 10888; uu: 4 / 9 called for 15520; ud holds 11333: 2 / 9, then 2 / 3 turned, 1 / 3 paid
        long[][] wants = {{1, 3}, {0, 1}, {0, 1}, {4, 9}, {2, 27}, {4, 27}};
        for (int act = 1; act <= 6; act++) {
            due("27: top of " + act, x.ends(0, act, 0), wants[act - 1][0]);
            due("27: bottom of " + act, x.ends(0, act, 1), wants[act - 1][1]);
        }
        due("27: ACT 0", x.ends(0, 0, 0), -1);
        due("27: ACT 7", x.ends(0, 7, 0), -1);
        due("27: what 2", x.ends(0, 1, 2), -1);
        due("27: what -1", x.ends(0, 1, -1), -1);
        due("27: no BOND", x.ends(3, 1, 0), -1);
        x.call(0, 0, 1);
        due("27: at once", x.ends(0, 4, 0), 1);
        due("27: at once", x.ends(0, 4, 1), 1);
        due("27: never behind it", x.ends(0, 5, 0), 0);
        x.bond(1, 17000, 100);
        due("27: only up up up, top", x.ends(1, 6, 0), 8);
        due("27: only up up up, bottom", x.ends(1, 6, 1), 27);
    }

    private static void life28() {
        TurnedBonds x = new TurnedBonds();
        x.chance(2, 3);
        tell(x, 0, "k2:11400 p1:10900");
        // 1 / 3 * 1 + 4 / 9 * 2 + 2 / 9 * 3 = 17 / 9
        due("28: top", x.life(0, 0), 17);
        due("28: bottom", x.life(0, 1), 9);
        x.call(0, 0, 1);
        due("28: 0 / 1, top", x.life(0, 0), 0);
        due("28: 0 / 1, bottom", x.life(0, 1), 1);
        due("28: what 2", x.life(0, 2), -1);
        due("28: what -1", x.life(0, -1), -1);
        due("28: no BOND", x.life(3, 0), -1);
    }

    private static void states29() {
        TurnedBonds x = new TurnedBonds();
        int[] all = {1, 2, 4, 6};
        for (int t = 0; t <= 3; t++) {
            due("29: DAY " + t, x.states(0, t), all[t]);
        }
        // marks part uud, udu, duu: 12000 of DAY 3 behind 14400, 10000, 10000 and 12000, 12000, 8333 pence
        x.soft(0, 0, 1, 11000);
        due("29: duu, udu, uud", x.states(0, 3), 8);
        x.soft(0, 0, 1, 0);
        x.put(0, 1, 10600);
        due("29: only behind up", x.states(0, 2), 2);
        due("29: those of the DAY itself count", x.states(0, 1), 2);
        x.call(0, 0, 1);
        due("29: none", x.states(0, 1), 0);
        due("29: DAY 0", x.states(0, 0), 1);
        due("29: beyond T", x.states(0, 4), -1);
        due("29: -1", x.states(0, -1), -1);
        due("29: no BOND", x.states(3, 0), -1);
    }

    private static void first30() {
        TurnedBonds x = new TurnedBonds();
        due("30: turned on T", x.first(0, 3, false), 2);
        due("30: not called", x.first(0, 3, true), -2);
        x.call(0, 2, 10500);
        due("30: called from one up on", x.first(0, 2, true), 1);
        x.call(0, 2, 11000);
        due("30: called at two", x.first(0, 2, true), 2);
        due("30: not turned", x.first(0, 2, false), -2);
        x.put(0, 1, 100000);
        due("30: not come to", x.first(0, 2, true), -2);
        due("30: beyond T", x.first(0, 4, true), -1);
        due("30: -1", x.first(0, -1, true), -1);
        due("30: no BOND", x.first(3, 0, true), -1);
        TurnedBonds y = oneDay();
        y.rate(200);
        due("30: turned ahead of T", y.first(0, 0, false), 0);
    }

    private static void held31() {
        TurnedBonds x = new TurnedBonds();
        // 1000 * (12820 - 10500) / (12000 - 8333) = 632.6
        due("31: cut", x.held(0), 632);
        due("31: on T", onPath(x, "uuu").held(0), -2);
        due("31: no BOND", x.held(3), NO_LONG);
        due("31: no BOND", x.held(-1), NO_LONG);
        onPath(x, "");
        x.move(true, 5, 6);
        due("31: alike", x.held(0), -3);
        TurnedBonds y = oneDay();
        y.move(true, 1, 2);
        y.move(false, 2, 1);
        // up is 5000 pence, down 20000
        due("31: up below down", y.held(0), 666);
        y.tree(1, 1);
        y.move(false, 1, 2);
        y.move(true, 1, 2);
        due("31: alike in pence", y.held(0), -3);
        TurnedBonds z = oneDay();
        z.tree(2, 100);
        tell(z, 0, "k1:10500 s1/1/9000 n0 c2:900");
        // up is called at 10500, down holds 10900: -400000 / 3667 = -109.08
        due("31: towards 0", z.held(0), -109);
    }

    private static void fairCoupon32() {
        TurnedBonds x = new TurnedBonds();
        due("32: none needed", x.fairCoupon(0, 11660), 0);
        due("32: one more", x.fairCoupon(0, 11661), 1);
        due("32: three DAYS", x.fairCoupon(0, 11664), 2);
        due("32: the most", x.fairCoupon(0, 14660), 1000);
        due("32: beyond", x.fairCoupon(0, 14661), -2);
        due("32: aim below 0", x.fairCoupon(0, Long.MIN_VALUE), 0);
        due("32: highest aim", x.fairCoupon(0, Long.MAX_VALUE), -2);
        due("32: no BOND", x.fairCoupon(3, 0), -1);
        x.coupon(0, 1, 500);
        due("32: in place of its own", x.fairCoupon(0, 11663), 1);
        due("32: its own stays", x.told(0, 11), 500);
    }

    private static void fairRatio33() {
        TurnedBonds x = new TurnedBonds();
        due("33: FACE alone", x.fairRatio(0, 10000), 0);
        due("33: its own", x.fairRatio(0, 11660), 100);
        // turned 1000 / 100: ten times 10000 at least
        due("33: beyond", x.fairRatio(0, 200000), -2);
        due("33: no BOND", x.fairRatio(3, 1), -1);
        due("33: its own stays", x.told(0, 1), 100);
        TurnedBonds y = oneDay();
        // (max(10000, 120 r) + max(10000, 83 r)) / 2: r 84 gives 10080 and 10000
        due("33: the first above FACE", y.fairRatio(0, 10001), 84);
        due("33: r 1000", y.fairRatio(0, 101665), 1000);
        due("33: no more", y.fairRatio(0, 101666), -2);
    }

    private static void bestCall34() {
        TurnedBonds x = new TurnedBonds();
        due("34: DAY 0", x.bestCall(0, 11000, 0), 0);
        due("34: 11000", x.bestCall(0, 11000, 1), 11000);
        x.window(0, 3, 6);
        tell(x, 0, "s1/1/14000");
        // free at uu alone: 14640 becomes 10000; 12820 becomes 10500; 10500
        due("34: DAY 2", x.bestCall(0, 10000, 0), 2);
        due("34: 10500", x.bestCall(0, 10000, 1), 10500);
        due("34: no use: the first", x.bestCall(0, 1000000, 0), 0);
        due("34: no use", x.bestCall(0, 1000000, 1), 11660);
        x.call(0, 2, 10000);
        due("34: in place of that DAY's", x.bestCall(0, 12000, 1), 10500);
        due("34: the first DAY of like ones", x.bestCall(0, 12000, 0), 0);
        due("34: too much", x.bestCall(0, 1000001, 0), -1);
        due("34: -1", x.bestCall(0, -1, 0), -1);
        due("34: what 2", x.bestCall(0, 0, 2), -1);
        due("34: what -1", x.bestCall(0, 0, -1), -1);
        due("34: no BOND", x.bestCall(3, 0, 0), -1);
        due("34: the BOND stays", x.told(0, 20), -2);
    }

    private static void bestPut35() {
        TurnedBonds x = new TurnedBonds();
        x.rate(100);
        x.bond(0, 10000, 0);
        // 7511 by FACE alone; 9000 on DAY 0, or on DAY 1 8181, on DAY 2 8181 and 7437
        due("35: DAY 0", x.bestPut(0, 9000, 0), 0);
        due("35: 9000", x.bestPut(0, 9000, 1), 9000);
        due("35: no use: the first", x.bestPut(0, 1, 0), 0);
        due("35: no use", x.bestPut(0, 1, 1), 7511);
        x.put(0, 0, 20000);
        due("35: DAY 1 is first to leave that of DAY 0", x.bestPut(0, 100, 0), 1);
        due("35: 20000", x.bestPut(0, 100, 1), 20000);
        due("35: DAY 1 for more", x.bestPut(0, 30000, 0), 0);
        due("35: too much", x.bestPut(0, 1000001, 0), -1);
        due("35: -1", x.bestPut(0, -1, 0), -1);
        due("35: what 2", x.bestPut(0, 0, 2), -1);
        due("35: no BOND", x.bestPut(-1, 0, 0), -1);
        due("35: the BOND stays", x.told(0, 31), -2);
    }

    private static void fairRate36() {
        TurnedBonds x = oneDay();
        x.bond(0, 12000, 0);
        due("36: 0", x.fairRate(0, 12000), 0);
        // 12000000 / 1001 is 11988
        due("36: 1", x.fairRate(0, 11999), 1);
        due("36: 2", x.fairRate(0, 11987), 2);
        due("36: 200", x.fairRate(0, 10000), 200);
        due("36: beyond", x.fairRate(0, 9999), -2);
        due("36: highest aim", x.fairRate(0, Long.MAX_VALUE), 0);
        due("36: no BOND", x.fairRate(3, 0), -1);
        x.rate(50);
        due("36: in place of its own", x.fairRate(0, 11999), 1);
        due("36: its own stays", x.count(8), 50);
    }

    private static void instead37() {
        TurnedBonds x = new TurnedBonds();
        tell(x, 0, "k1:9000 k2:9000 s1/1/9000 p1:100 c1:3 w1-1 k3:5 p3:77");
        due("37: HOLD", x.instead(0, 0), x.here(0, 0));
        due("37: no PUT", x.instead(0, 1), -2);
        due("37: not in WINDOW", x.instead(0, 2), -2);
        due("37: no CALL", x.instead(0, 3), -2);
        onPath(x, "u");
        due("37: HOLD of 9000s and COUPON", x.instead(0, 0), 9003);
        due("37: PUT", x.instead(0, 1), 103);
        due("37: TURNED", x.instead(0, 2), 12003);
        due("37: what CALLED gives", x.instead(0, 3), 12003);
        onPath(x, "d");
        due("37: not free", x.instead(0, 3), -2);
        onPath(x, "uu");
        due("37: CALL out of WINDOW", x.instead(0, 3), 9000);
        onPath(x, "uuu");
        due("37: FACE on T", x.instead(0, 0), 10000);
        due("37: no PUT on T", x.instead(0, 1), -2);
        due("37: no CALL on T", x.instead(0, 3), -2);
        x.window(0, 3, 3);
        due("37: TURNED on T", x.instead(0, 2), 17280);
        x.put(0, 3, 0);
        due("37: no PUT at 0 on T", x.instead(0, 1), -2);
        x.tree(4, 100);
        onPath(x, "uuu");
        due("37: a PUT at 0 ahead of T", x.instead(0, 1), 0);
        x.tree(1, 100);
        onPath(x, "d");
        due("37: T is DAY 1 now", x.instead(0, 1), -2);
        due("37: 4", x.instead(0, 4), -1);
        due("37: -1", x.instead(0, -1), -1);
        due("37: no BOND", x.instead(3, 0), -1);
    }

    private static void shifted38() {
        TurnedBonds x = new TurnedBonds();
        due("38: as it is", x.shifted(0, 100, 1, 2), 11660);
        due("38: THE CHANCE", x.shifted(0, 100, 3, 4), 13915);
        due("38: 1 pound", x.shifted(0, 1, 1, 2), 10000);
        due("38: 1000 pounds", oneDay().shifted(0, 1000, 1, 2), (120000 + 83333) / 2);
        due("38: all stays", x.value(0), 11660);
        int[][] wrong = {{3, 1, 1, 2}, {0, 0, 1, 2}, {0, 1001, 1, 2}, {0, 1, 0, 2}, {0, 1, 2, 2}, {0, 1, 1, 21},
            {0, 1, 1, 1}};
        for (int[] w : wrong) {
            due("38: wrong", x.shifted(w[0], w[1], w[2], w[3]), -1);
        }
    }

    private static void open39() {
        TurnedBonds x = new TurnedBonds();
        due("39: no BOND", x.open(3), -1);
        due("39: no BOND", x.open(-1), -1);
        due("39: nothing opened", x.byHand(0), -1);
        onPath(x, "uu");
        due("39: VALUE on DAY 0", x.open(0), 11660);
        due("39: on DAY 0", x.byHand(1), 0);
        x.tree(1, 1);
        x.bond(0, 5, 5);
        x.move(true, 1, 1);
        due("39: as it was", x.go(true), 1);
        due("39: as it was", x.go(true), 2);
        due("39: as it was", x.does(2), 14400);
        due("39: a refused one changes nothing", x.open(3), -1);
        due("39: it is over", x.byHand(0), 0);
        due("39: in place of the one ahead", x.open(1), 10000);
        due("39: it goes on", x.byHand(0), 1);
        due("39: nothing paid", x.byHand(2), 0);
        due("39: no REGRET", x.byHand(3), 0);
    }

    private static void go40() {
        TurnedBonds x = new TurnedBonds();
        due("40: nothing opened", x.go(true), -1);
        x.coupon(0, 1, 5);
        x.coupon(0, 3, 70);
        x.open(0);
        due("40: 1", x.go(true), 1);
        due("40: COUPON", x.byHand(2), 5);
        due("40: 2", x.go(false), 2);
        due("40: 3", x.go(true), 3);
        due("40: COUPONS", x.byHand(2), 75);
        due("40: on T", x.go(true), -2);
        due("40: TURNED", x.does(2), 12075);
        due("40: over", x.go(true), -2);
        x.open(0);
        x.does(2);
        due("40: over on DAY 0", x.go(true), -2);
    }

    private static void does41() {
        TurnedBonds x = new TurnedBonds();
        due("41: nothing opened", x.does(2), -1);
        tell(x, 0, "k1:9000 s1/1/9000 p0:50 w1-6 c1:4 c3:30");
        x.open(0);
        due("41: 4", x.does(4), -1);
        due("41: -1", x.does(-1), -1);
        due("41: 0 ahead of T", x.does(0), -2);
        due("41: not in WINDOW", x.does(2), -3);
        due("41: no CALL", x.does(3), -3);
        due("41: it goes on", x.byHand(0), 1);
        due("41: PUT", x.does(1), 50);
        due("41: over", x.does(1), -2);
        due("41: over, 0", x.does(0), -2);
        x.open(0);
        x.go(true);
        due("41: no PUT", x.does(1), -3);
        due("41: CALLED, turned", x.does(3), 12004);
        x.open(0);
        x.go(false);
        due("41: not free", x.does(3), -3);
        x.go(false);
        x.go(false);
        due("41: not CALLED on T", x.does(3), -3);
        due("41: FACE on T", x.does(0), 10034);
        due("41: paid stays", x.byHand(2), 10034);
        x.put(0, 0, 0);
        x.open(0);
        due("41: PUT at 0", x.does(1), 0);
        due("41: over", x.byHand(0), 0);
        x.put(0, 3, 20000);
        x.call(0, 3, 5);
        x.open(0);
        x.go(true);
        x.go(true);
        x.go(true);
        long regret = x.byHand(3);
        due("41: not PUT on T", x.does(1), -3);
        due("41: not CALLED on T where there is one", x.does(3), -3);
        due("41: it goes on", x.byHand(0), 1);
        due("41: nothing more was paid", x.byHand(2), 34);
        due("41: no more REGRET", x.byHand(3), regret);
        due("41: turned on T", x.does(2), 17314);
        due("41: over ahead of what can't be", x.does(1), -2);
    }

    private static void byHand42() {
        TurnedBonds x = new TurnedBonds();
        due("42: nothing opened", x.byHand(0), -1);
        tell(x, 0, "k2:11000 p1:10600 c1:1 c2:2 c3:4");
        x.open(0);
        due("42: what 5", x.byHand(5), -1);
        due("42: what -1", x.byHand(-1), -1);
        due("42: THE ACT", x.byHand(4), 0);
        x.go(false);
        // up is worth 11002, down 10006: HOLD 10504, PUT 10600
        due("42: no REGRET so far", x.byHand(3), 0);
        due("42: THE ACT", x.byHand(4), 1);
        x.go(true);
        due("42: REGRET 96", x.byHand(3), 96);
        due("42: DAY", x.byHand(1), 2);
        due("42: THE ACT", x.byHand(4), 3);
        due("42: paid", x.byHand(2), 3);
        // CALL 11000 for HOLD 11004, TURNED 10000
        due("42: turned", x.does(2), 10003);
        due("42: REGRET 1000 more", x.byHand(3), 1096);
        due("42: over", x.byHand(0), 0);
        due("42: its STATE stays", x.byHand(4), 3);
        x.open(0);
        x.go(true);
        x.go(true);
        // CALLED gives 14400, HOLD is 14644
        x.go(true);
        due("42: without sign", x.byHand(3), 244);
        due("42: on T it goes on", x.byHand(0), 1);
        due("42: THE ACT", x.byHand(4), 6);
    }

    private static void byRule43() {
        TurnedBonds x = new TurnedBonds();
        int never = 1000000;
        due("43: never", x.byRule(0, never, never, false), 11660);
        due("43: at once", x.byRule(0, 0, 0, false), 10000);
        due("43: at once, ACT", x.byRule(0, 0, 0, true), 2);
        // turned at 12000; down: 10500
        due("43: up", x.byRule(0, 12000, never, false), 11250);
        due("43: not at 12000", x.byRule(0, 12001, never, false), (14400 + 11000) / 4 + 5250);
        tell(x, 0, "k1:12500 p0:99999 p1:99999 w1-6 c1:8");
        due("43: CALLED and paid, never PUT", x.byRule(0, never, 12000, false), (12508 + 10508) / 2);
        onPath(x, "u");
        due("43: 3", x.byRule(0, never, 12000, true), 3);
        due("43: TURNED comes first", x.byRule(0, 12000, 12000, true), 2);
        x.call(0, 1, 11999);
        due("43: 4", x.byRule(0, never, 12000, true), 4);
        x.soft(0, 1, 1, 12001);
        due("43: not free", x.byRule(0, never, 12000, true), 0);
        x.soft(0, 0, 1, 0);
        x.window(0, 2, 6);
        due("43: out of WINDOW", x.byRule(0, 0, 0, true), 3);
        due("43: 6", onPath(x, "uuu").byRule(0, never, never, true), 6);
        due("43: 5", onPath(x, "ddd").byRule(0, 0, 0, true), 5);
        tell(x, 0, "n0 k0:0 w0-6");
        due("43: TURNED into nothing", x.byRule(0, 0, never, false), 0);
        due("43: CALLED at 0", x.byRule(0, never, 0, false), 0);
        int[][] wrong = {{3, 0, 0}, {0, -1, 0}, {0, 0, -1}, {0, 1000001, 0}, {0, 0, 1000001}};
        for (int[] w : wrong) {
            due("43: wrong", x.byRule(w[0], w[1], w[2], false), -1);
        }
    }

    private static void run44() {
        TurnedBonds x = new TurnedBonds();
        // seed 7 draws d d u, u u u
        due("44: one row", x.run(0, 7, 1), 10000);
        due("44: two rows", x.run(0, 7, 2), 10000 + 17280);
        x.call(0, 2, 11000);
        due("44: as by along()", x.run(0, 7, 2), 10000 + 14400);
        x.coupon(0, 2, 1);
        due("44: COUPONS too", x.run(0, 7, 2), 10001 + 14401);
        x.call(0, 0, 1);
        due("44: a hundred", x.run(0, 7, 100), 1000000);
        due("44: THE PATH stays", x.went(0), 0);
        due("44: none", x.run(0, 7, 0), -1);
        due("44: 101", x.run(0, 7, 101), -1);
        due("44: no BOND", x.run(3, 7, 1), -1);
    }

    private static void extreme45() {
        TurnedBonds x = new TurnedBonds();
        due("45: most", x.extreme(0, true, 0), 17280);
        due("45: up up up", x.extreme(0, true, 1), 7);
        due("45: least", x.extreme(0, false, 0), 10000);
        due("45: the least number of like ones", x.extreme(0, false, 1), 0);
        tell(x, 0, "p1:10600 k2:11000 n100");
        due("45: called at up up", x.extreme(0, true, 0), 14400);
        due("45: bits 0 and 1", x.extreme(0, true, 1), 3);
        due("45: least, up down down", x.extreme(0, false, 0), 10000);
        due("45: bit 0 is move 0", x.extreme(0, false, 1), 1);
        due("45: what 2", x.extreme(0, true, 2), -1);
        due("45: what -1", x.extreme(0, true, -1), -1);
        due("45: no BOND", x.extreme(3, true, 0), -1);
    }

    private static void days46() {
        TurnedBonds x = new TurnedBonds();
        due("46: 0", x.days(0, 0), 7);
        due("46: 5", x.days(0, 5), 8);
        due("46: 6", x.days(0, 6), 8);
        due("46: 1", x.days(0, 1), 0);
        tell(x, 0, "p1:10600 k2:11000");
        due("46: PUT on DAY 1", x.days(0, 1), 2);
        due("46: CALLED on DAY 2", x.days(0, 4), 4);
        x.call(0, 0, 1);
        due("46: what is not come to does not count", x.days(0, 1), 0);
        due("46: DAY 0", x.days(0, 4), 1);
        x.bond(1, 17000, 100);
        due("46: only up up up", x.days(1, 6), 8);
        due("46: ACT 7", x.days(0, 7), -1);
        due("46: ACT -1", x.days(0, -1), -1);
        due("46: no BOND", x.days(3, 0), -1);
    }

    private static void table47() {
        TurnedBonds x = new TurnedBonds();
        x.soft(0, 0, 1, 11000);
        // DAY 2: dd; du, ud (marks of 10000 behind 8333 or 12000); uu
        long[][] wants = {{0, 0, 0, 10000, 0}, {1, 0, 1, 11000, 0}, {1, 2, 0, 11000, 0}, {2, 3, 1, 14640, 0}};
        for (int i = 0; i < 4; i++) {
            for (int what = 0; what < 5; what++) {
                due("47: STATE " + i + ", " + what, x.table(0, 2, i, what), wants[i][what]);
            }
        }
        due("47: not so many", x.table(0, 2, 4, 0), -2);
        // DAY 3, two ups: duu 1, udu 4 + 1, uud 4 + 2 + 1
        due("47: marks of duu", x.table(0, 3, 4, 1), 1);
        due("47: marks of udu", x.table(0, 3, 5, 1), 5);
        due("47: marks of uud", x.table(0, 3, 6, 1), 7);
        due("47: uud came down", x.table(0, 3, 6, 2), 0);
        due("47: turned", x.table(0, 3, 6, 4), 6);
        x.soft(0, 0, 1, 0);
        due("47: came down ahead of came up", x.table(0, 2, 1, 2), 0);
        due("47: then up", x.table(0, 2, 2, 2), 1);
        due("47: marks of DAY 0", x.table(0, 0, 0, 1), 1);
        due("47: did not come up", x.table(0, 0, 0, 2), 0);
        int[][] wrong = {{3, 0, 0, 0}, {0, 4, 0, 0}, {0, -1, 0, 0}, {0, 0, -1, 0}, {0, 0, 0, 5}, {0, 0, 9, -1}};
        for (int[] w : wrong) {
            due("47: wrong", x.table(w[0], w[1], w[2], w[3]), -1);
        }
    }

    private static void hedged48() {
        TurnedBonds x = oneDay();
        // VALUE 11000; held 1000 * 2000 / 3667 = 545; 545 * 10000 / 1000 = 5450; cash 5550
        due("48: up: 5550 + 6540 - 12000", onPath(x, "u").hedged(0), 90);
        due("48: down: 5550 + 4541 - 10000", onPath(x, "d").hedged(0), 91);
        due("48: it goes on", onPath(x, "").hedged(0), -2);
        x.coupon(0, 1, 40);
        due("48: the COUPON once", onPath(x, "u").hedged(0), 90);
        x.coupon(0, 1, 0);
        x.rate(101);
        // turned at once for 10000, HOLD is 9990
        due("48: it ENDS on DAY 0", x.hedged(0), 0);
        x.window(0, 1, 1);
        x.rate(100);
        // 5550 of 10000: cash 4550, times 1.1 is 5005; 5005 + 6540 - 12000
        due("48: RATE", x.hedged(0), -455);
        due("48: no BOND", x.hedged(3), NO_LONG);
        due("48: no BOND", x.hedged(-1), NO_LONG);
        TurnedBonds y = oneDay();
        y.move(true, 5, 6);
        due("48: no shares where PRICES are alike", onPath(y, "u").hedged(0), 0);
        TurnedBonds z = oneDay();
        z.move(true, 1, 20);
        z.move(false, 1, 19);
        tell(z, 0, "c1:0 f1 n1000 w1-1");
        // 5000 and 5263: held 1000 * (5260 - 5000) / (500 - 526)
        due("48: down dearer", onPath(z, "u").hedged(0), (5000 + 5260) / 2 - 100000 + 5000 - 5000);
    }

    private static void hedgedLimits48() {
        TurnedBonds x = oneDay();
        x.tree(2, 100);
        x.move(true, 1, 1);
        x.move(false, 19, 20);
        tell(x, 0, "n0 s1/1/10000 k1:1 f1000000");
        // up is called at 1, down is 1000000: 1000 * -999999 / 500
        due("48: held", x.held(0), -1999998);
        onPath(x, "u");
        // VALUE 500000, shares -100000: cash 500000 + 1000000; -1000000 of shares, 1 paid
        due("48: -100000 at least", x.hedged(0), 500000 - 1);
        x.move(true, 19, 20);
        x.move(false, 1, 1);
        onPath(x, "d");
        // 1000 * (1000000 - 1) / (9500 - 10000) again, as up is the lower one now: sold short as well
        due("48: the lower one up", x.hedged(0), 500000 - 1);
        x.move(true, 20, 1);
        x.move(false, 19, 1);
        tell(x, 0, "f1 n1000 w2-2 k1:-");
        // 39000000 and 37050000 over 200000 and 190000 pence: 195000
        due("48: held", x.held(0), 195000);
        onPath(x, "uu");
        // 38025000 less 1000000; 90000 sold at 200000: 55025000; 10000 at 4000000 are what is paid
        due("48: 100000 at most", x.hedged(0), 55025000);
    }

    private static void letter49() {
        TurnedBonds x = new TurnedBonds();
        due("49: how many", x.letter(0, -1), 22);
        due("49: first", x.letter(0, 0), 'f');
        due("49: last", x.letter(0, 21), '0');
        due("49: not so many", x.letter(0, 22), -2);
        due("49: far behind", x.letter(0, Integer.MAX_VALUE), -2);
        due("49: -2", x.letter(0, -2), -1);
        due("49: no BOND", x.letter(3, -1), -1);
        due("49: no BOND", x.letter(-1, 0), -1);
        String text = "f1000000n1000c1:1000c6:1k0:0k1:12k5:1000000p0:1p4:0w2-4s3/3/1000000z2";
        due("49: read", tell(x, 0, text), 12);
        yes("49: and written", letters(x, 0).equals(text));
    }

    private static void alike50() {
        TurnedBonds x = new TurnedBonds();
        due("50: alike", x.alike(0, 1, 0), 1);
        due("50: no DAY", x.alike(0, 1, 1), -2);
        due("50: itself", x.alike(2, 2, 0), 1);
        x.soft(1, 1, 1, 12345);
        due("50: SOFT without CALLS", x.alike(0, 1, 0), 1);
        x.put(1, 2, 10001);
        due("50: not alike", x.alike(0, 1, 0), 0);
        // DAY 0 and 1 differ too: 10500 and 10500.5 cut; dd 10001: d 10500; so DAY 2
        due("50: the first DAY", x.alike(0, 1, 1), 2);
        x.put(1, 2, 10003);
        due("50: DAY 1: 10501, DAY 0: 11660", x.alike(1, 0, 1), 1);
        x.put(1, 2, 10005);
        due("50: DAY 0: 11661", x.alike(1, 0, 1), 0);
        x.put(1, 2, -1);
        x.coupon(1, 4, 9);
        due("50: behind T nothing counts", x.alike(1, 0, 0), 1);
        x.soft(1, 0, 1, 0);
        x.call(1, 0, 10000);
        x.call(2, 0, 10000);
        x.put(2, 2, 10001);
        due("50: in all STATES, come to or not", x.alike(1, 2, 1), 2);
        tell(x, 0, "p0:99999 p1:99999 p2:99999 f17279");
        tell(x, 1, "p0:99999 p1:99999 p2:99999 f17279 k0:-");
        x.bond(1, 17279, 0);
        due("50: only up up up", x.alike(0, 1, 0), 0);
        due("50: on T", x.alike(0, 1, 1), 3);
        due("50: what 2", x.alike(0, 1, 2), -1);
        due("50: what -1", x.alike(0, 1, -1), -1);
        due("50: no BOND", x.alike(3, 0, 0), -1);
        due("50: no BOND", x.alike(0, -1, 0), -1);
    }

    private static void best51() {
        TurnedBonds x = new TurnedBonds();
        due("51: most of like ones", x.best(true), 0);
        due("51: least of like ones", x.best(false), 0);
        x.bond(1, 10001, 100);
        x.bond(2, 9000, 100);
        x.coupon(1, 1, 1);
        due("51: most", x.best(true), 1);
        due("51: least", x.best(false), 2);
        x.copy(1, 2);
        due("51: most, the lowest", x.best(true), 1);
        onPath(x, "u");
        x.bond(0, 10000, 0);
        due("51: least", x.best(false), 0);
        x.call(1, 0, 1);
        due("51: by all their rights", x.best(true), 2);
        x.copy(1, 2);
        x.call(2, 0, -1);
        x.call(0, 0, 1);
        due("51: by all their rights", x.best(true), 2);
        due("51: by all their rights", x.best(false), 0);
    }

    private static void book52() {
        TurnedBonds x = new TurnedBonds();
        x.bond(0, 1000, 0);
        x.bond(1, 200, 0);
        x.bond(2, 3, 0);
        due("52: together", x.book(2, -3, 100), 2000 - 600 + 300);
        due("52: most", x.book(100, 100, 100), 120300);
        due("52: least", x.book(-100, -100, -100), -120300);
        due("52: nothing", x.book(0, 0, 0), 0);
        x.call(0, 0, 500);
        x.call(1, 0, 50);
        x.call(2, 0, 1);
        due("52: with CALLS", x.book(1, 1, 1), 551);
        int[][] wrong = {{101, 0, 0}, {0, 101, 0}, {0, 0, 101}, {-101, 0, 0}, {0, -101, 0}, {0, 0, -101}};
        for (int[] w : wrong) {
            due("52: wrong", x.book(w[0], w[1], w[2]), NO_LONG);
        }
    }

    private static void count53() {
        TurnedBonds x = new TurnedBonds();
        x.tree(5, 7);
        x.move(true, 11, 12);
        x.move(false, 13, 14);
        x.chance(2, 9);
        x.rate(33);
        x.feed(0, 0, 0, 0, 0);
        x.keep();
        int[] wants = {5, 7, 11, 12, 13, 14, 2, 9, 33, 20, 1};
        for (int what = 0; what < wants.length; what++) {
            due("53: count(" + what + ")", x.count(what), wants[what]);
        }
        due("53: 11", x.count(11), -1);
        due("53: -1", x.count(-1), -1);
    }

    private static void keep54() {
        TurnedBonds x = new TurnedBonds();
        for (int n = 1; n <= 8; n++) {
            due("54: keep " + n, x.keep(), n);
        }
        due("54: 8 are", x.keep(), -1);
        due("54: still 8", x.count(10), 8);
        due("54: one gone", x.undo(), 7);
        x.rate(9);
        due("54: kept again", x.keep(), 8);
        x.rate(10);
        x.undo();
        due("54: as kept again", x.count(8), 9);
    }

    private static void undo55() {
        TurnedBonds x = new TurnedBonds();
        due("55: none", x.undo(), -1);
        x.keep();
        x.tree(2, 50);
        x.move(true, 2, 1);
        x.move(false, 1, 2);
        x.chance(1, 3);
        x.rate(5);
        tell(x, 0, "f1n2c3k0:4p1:5w2-3s1/2/6z1");
        x.bond(2, 8, 8);
        x.open(2);
        x.go(true);
        onPath(x, "ud");
        due("55: two", x.keep(), 2);
        x.tree(6, 1);
        x.bond(2, 9, 9);
        x.go(false);
        x.does(0);
        Check.feed(x, "f7");
        due("55: one left", x.undo(), 1);
        due("55: T", x.count(0), 2);
        due("55: THE PATH", x.went(0), 2);
        due("55: THE PATH", x.went(10), 1);
        due("55: a BOND", x.told(2, 0), 8);
        due("55: BY HAND goes on", x.byHand(0), 1);
        due("55: BY HAND, DAY", x.byHand(1), 1);
        due("55: the tape is not kept", x.count(9), 20);
        due("55: none left", x.undo(), 0);
        int[] first = {3, 100, 6, 5, 5, 6, 1, 2, 0};
        for (int what = 0; what < first.length; what++) {
            due("55: count(" + what + ")", x.count(what), first[what]);
        }
        yes("55: TERMS", letters(x, 0).equals("f10000n100w0-6s0/1/0z0"));
        yes("55: TERMS", letters(x, 2).equals("f10000n100w0-6s0/1/0z0"));
        due("55: THE PATH", x.went(0), 0);
        due("55: nothing opened", x.byHand(0), -1);
        due("55: none", x.undo(), -1);
    }

    /** The longest tree: PRICE times 2 or halved on each of six DAYS. */
    private static void sixDays() {
        TurnedBonds x = new TurnedBonds();
        x.tree(6, 100);
        x.move(true, 2, 1);
        x.move(false, 1, 2);
        x.window(0, 6, 6);
        // (42 * 10000 + 15 * 40000 + 6 * 160000 + 640000) / 64
        due("six: VALUE", x.value(0), 40937);
        due("six: without turning", x.without(0, 4), 10000);
        due("six: most", x.extreme(0, true, 0), 640000);
        due("six: its row", x.extreme(0, true, 1), 63);
        due("six: least", x.extreme(0, false, 1), 0);
        due("six: STATES", x.states(0, 6), 12);
        due("six: the last STATE", x.table(0, 6, 11, 0), 6);
        due("six: its VALUE", x.table(0, 6, 11, 3), 640000);
        due("six: its ACT", x.table(0, 6, 11, 4), 6);
        due("six: no more", x.table(0, 6, 12, 4), -2);
        due("six: turned from 4 up", x.first(0, 6, false), 4);
        due("six: chance of turned", x.ends(0, 6, 0), 11);
        due("six: chance of turned", x.ends(0, 6, 1), 32);
        due("six: life", x.life(0, 0), 6);
        onPath(x, "uuuuuu");
        due("six: no PUT of DAY 6", x.instead(0, 1), -2);
        due("six: no CALL of DAY 6", x.here(0, 2), 0);
        due("six: paid", x.along(0, 2), 640000);
        x.call(0, 5, 1);
        due("six: called on DAY 5", x.value(0) - x.along(0, 2), 639999);
        due("six: VALUE", x.without(0, 0), 1);
        x.put(0, 5, 7);
        due("six: put on DAY 5", x.without(0, 0), 7);
        x.tree(5, 100);
        x.window(0, 5, 5);
        due("six: five, without turning", x.without(0, 4), 10000);
    }

    public static void main(String[] args) {
        newObject01();
        feed02();
        tree03();
        move04();
        chance05();
        rate06();
        price07();
        bond08();
        coupon09();
        call10();
        put11();
        window12();
        soft13();
        settle14();
        terms15();
        faults15();
        told16();
        copy17();
        path18();
        drawn19();
        went20();
        value21();
        here22();
        act23();
        along24();
        without25();
        right26();
        ends27();
        life28();
        states29();
        first30();
        held31();
        fairCoupon32();
        fairRatio33();
        bestCall34();
        bestPut35();
        fairRate36();
        instead37();
        shifted38();
        open39();
        go40();
        does41();
        byHand42();
        byRule43();
        run44();
        extreme45();
        days46();
        table47();
        hedged48();
        hedgedLimits48();
        letter49();
        alike50();
        best51();
        book52();
        count53();
        keep54();
        undo55();
        sixDays();
        CHECK.close();
    }
}
