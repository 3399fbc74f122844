/**
 * The boundary cases that the document names, by its sections and promises: the least and the most that there is, what
 * is empty, full or goes round, and numbers that are just alike. RefusalTest has what is refused, for all arguments.
 */
public final class EdgeTest {
    private static final int MILLION = 1000000;
    private static final Check CHECK = new Check();

    private static void due(String what, long got, long want) {
        CHECK.due(what, got, want);
    }

    private static void yes(String what, boolean got) {
        CHECK.due(what, got, true);
    }

    private static void no(String what, boolean got) {
        CHECK.due(what, got, false);
    }

    /** 10000 pence on DAY 0, then times 2 or halved. */
    private static TurnedBonds doubling(int days) {
        TurnedBonds x = new TurnedBonds();
        x.tree(days, 100);
        x.move(true, 2, 1);
        x.move(false, 1, 2);
        return x;
    }

    /** The dearest share: times 20 whichever way it goes. */
    private static TurnedBonds dearest() {
        TurnedBonds x = new TurnedBonds();
        x.tree(6, 1000);
        x.move(true, 20, 1);
        x.move(false, 20, 1);
        return x;
    }

    private static TurnedBonds onPath(TurnedBonds x, String moves) {
        x.path(0);
        Check.feed(x, moves);
        due("path of " + moves, x.path(moves.length()), moves.replace("d", "").length());
        return x;
    }

    private static int tell(TurnedBonds x, int k, String text) {
        x.path(0);
        Check.feed(x, text);
        return x.terms(k, text.length());
    }

    private static String letters(TurnedBonds x, int k) {
        StringBuilder text = new StringBuilder();
        int n = x.letter(k, -1);
        for (int i = 0; i < n; i++) {
            text.append((char) x.letter(k, i));
        }
        return text.toString();
    }

    private static String moves(TurnedBonds x) {
        StringBuilder text = new StringBuilder();
        for (int i = 0; i < x.went(0); i++) {
            text.append(x.went(10 + i) == 1 ? 'u' : 'd');
        }
        return text.toString();
    }

    // ---- 1, 2: a new object, the tape

    private static void objectsShareNothing01() {
        TurnedBonds x = new TurnedBonds();
        x.tree(6, 1);
        x.bond(0, 1, 1);
        x.feed(0, 0, 0, 0, 0);
        x.keep();
        x.open(0);
        TurnedBonds y = new TurnedBonds();
        due("1: T", y.count(0), 3);
        due("1: FACE", y.told(0, 0), 10000);
        due("1: the tape", y.count(9), 0);
        due("1: kept", y.count(10), 0);
        due("1: BY HAND", y.byHand(0), -1);
        due("1: VALUE", y.value(0), 11660);
        due("1: the other stays", x.count(0), 6);
    }

    private static void fullTape02() {
        TurnedBonds x = new TurnedBonds();
        x.feed(0x66372020, 0, 0, 0, 0);
        for (int n = 40; n <= 200; n += 20) {
            due("2: feed", x.feed(0x78787878, -1, -1, -1, -1), n);
        }
        due("2: full", x.feed(0x66382020, 0, 0, 0, 0), -1);
        due("2: as it was", x.count(9), 200);
        due("2: its first bytes", x.terms(0, 4), 1);
        due("2: of the first feed", x.told(0, 0), 7);
        due("2: empty", x.count(9), 0);
        due("2: from the begin again", x.feed(0x66392020, 0, 0, 0, 0), 20);
        due("2: its first bytes", x.terms(0, 4), 1);
        due("2: not what stood there ahead", x.told(0, 0), 9);
    }

    private static void bytesOfInts02() {
        String text = "f1n2c1:3k1:4p1:5z2w1";
        TurnedBonds x = new TurnedBonds();
        Check.feed(x, text);
        due("2: the last byte, too", x.terms(0, 20), -1020);
        x.feed(Integer.MIN_VALUE, 0, 0, 0, 0);
        due("2: byte 128 is no letter", x.terms(0, 4), -1000);
        x.feed(0x66ff2020, 0, 0, 0, 0);
        due("2: byte 255 is no digit", x.terms(0, 4), -1001);
        x.feed(0xf5000000, 0, 0, 0, 0);
        due("2: u and 128 is no u", x.path(1), -2);
        x.feed(0x75, 0, 0, 0, 0);
        due("2: the lowest byte is the last", x.path(1), -2);
        x.feed(0x20202066, 0x31202020, 0, 0, 0);
        due("2: one int behind the other", x.terms(0, 8), 1);
        for (int place = 0; place < 20; place++) {
            byte[] bytes = new byte[20];
            java.util.Arrays.fill(bytes, (byte) ' ');
            bytes[place] = 'x';
            int[] ints = new int[5];
            for (int i = 0; i < 20; i++) {
                ints[i / 4] = ints[i / 4] << 8 | bytes[i];
            }
            x.feed(ints[0], ints[1], ints[2], ints[3], ints[4]);
            due("2: byte " + place, x.terms(0, 20), -1000 - place);
        }
    }

    // ---- 3 to 7: the tree

    private static void treeEdges03() {
        TurnedBonds x = onPath(new TurnedBonds(), "uud");
        yes("3: the same again", x.tree(3, 100));
        due("3: THE PATH is empty all the same", x.went(0), 0);
        x.coupon(0, 6, 5);
        x.call(0, 5, 1);
        x.put(0, 5, 2);
        yes("3: shorter", x.tree(1, 100));
        due("3: no DAY 2", x.price(2, 0, 0), -1);
        due("3: no DAY 2", x.states(0, 2), -1);
        due("3: no two moves", x.drawn(1, 2), -1);
        due("3: of DAY 6, told still", x.told(0, 16), 5);
        yes("3: longer", x.tree(6, 100));
        due("3: of DAY 5, told still", x.told(0, 25), 1);
        due("3: of DAY 5, told still", x.told(0, 35), 2);
        due("3: six moves", x.drawn(1, 6) >= 0 ? 1 : 0, 1);
        due("3: no seven", x.drawn(1, 7), -1);
        due("3: DAY 6", x.price(6, 6, 0) > 0 ? 1 : 0, 1);
        no("3: both wrong", x.tree(0, 0));
        due("3: THE PATH stays when refused", x.went(0), 6);
    }

    private static void moveEdges04() {
        TurnedBonds x = onPath(new TurnedBonds(), "ud");
        yes("4: least", x.move(true, 1, 1));
        yes("4: most", x.move(false, 20, 20));
        due("4: THE PATH stays", x.went(0), 2);
        due("4: 100 pounds for ever", x.price(3, 1, 0), 10000);
        due("4: 20 / 20 in lowest terms", x.price(3, 1, 1), 100);
        due("4: 20 / 20 in lowest terms", x.price(3, 1, 2), 1);
        no("4: top right, bottom wrong", x.move(true, 5, 21));
        due("4: the top stays", x.count(2), 1);
        no("4: bottom right, top wrong", x.move(false, 0, 5));
        due("4: the bottom stays", x.count(5), 20);
    }

    private static void chanceEdges05() {
        TurnedBonds x = doubling(1);
        x.window(0, 1, 1);
        // 20000 up, FACE 10000 down
        yes("5: 1 in 2", x.chance(1, 2));
        due("5: 1 in 2", x.value(0), 15000);
        yes("5: 19 in 20", x.chance(19, 20));
        due("5: 19 in 20", x.value(0), 19500);
        yes("5: 1 in 20", x.chance(1, 20));
        due("5: 1 in 20", x.value(0), 10500);
        yes("5: 18 in 20 is not made less", x.chance(18, 20));
        due("5: p", x.count(6), 18);
        due("5: q", x.count(7), 20);
        no("5: q right, p wrong", x.chance(0, 7));
        due("5: q stays", x.count(7), 20);
    }

    private static void rateEdges06() {
        TurnedBonds x = new TurnedBonds();
        x.tree(1, 1);
        x.bond(0, 12, 0);
        due("6: 0", x.value(0), 12);
        x.rate(200);
        due("6: 200: 12000 / 1200", x.value(0), 10);
        x.bond(0, 11, 0);
        due("6: 200: 11000 / 1200, cut down", x.value(0), 9);
        x.rate(1);
        x.bond(0, 1001, 0);
        due("6: 1: 1001000 / 1001", x.value(0), 1000);
    }

    private static void priceEdges07() {
        TurnedBonds x = dearest();
        for (int j = 0; j <= 6; j++) {
            due("7: dearest", x.price(6, j, 0), 6400000000000L);
            due("7: dearest, top", x.price(6, j, 1), 64000000000L);
            due("7: dearest, bottom", x.price(6, j, 2), 1);
        }
        x.tree(6, 1);
        x.move(true, 1, 20);
        x.move(false, 19, 20);
        due("7: cheapest, in pence", x.price(6, 6, 0), 0);
        due("7: cheapest, top", x.price(6, 6, 1), 1);
        due("7: cheapest, bottom", x.price(6, 6, 2), 64000000);
        due("7: 5 pence", x.price(1, 1, 0), 5);
        due("7: 0.25 pence", x.price(2, 2, 0), 0);
        due("7: 19 to the 6", x.price(6, 0, 1), 47045881);
        due("7: over 20 to the 6", x.price(6, 0, 2), 64000000);
        due("7: 73.5 pence", x.price(6, 0, 0), 73);
        due("7: DAY 0", x.price(0, 0, 0), 100);
        due("7: DAY 0, top", x.price(0, 0, 1), 1);
        due("7: DAY 0, bottom", x.price(0, 0, 2), 1);
        due("7: DAY 0 has no up", x.price(0, 1, 0), -1);
        x.tree(1, 1000);
        x.move(true, 20, 19);
        due("7: 20000 / 19 in pence", x.price(1, 1, 0), 105263);
        due("7: T is the last DAY", x.price(2, 0, 0), -1);
    }

    // ---- 8 to 17: terms

    private static void faceAndRatio08() {
        TurnedBonds x = dearest();
        x.bond(0, MILLION, 0);
        due("8: FACE, the most", x.value(0), MILLION);
        due("8: RATIO 0 turns into nothing", x.here(0, 1), 0);
        x.bond(0, 1, 1000);
        due("8: RATIO 1000 is ten shares", x.here(0, 1), 1000000);
        due("8: ten of the dearest", x.value(0), 64000000000000L);
        no("8: FACE right, RATIO wrong", x.bond(0, 5, 1001));
        due("8: FACE stays", x.told(0, 0), 1);
        no("8: RATIO right, FACE wrong", x.bond(0, 0, 5));
        due("8: RATIO stays", x.told(0, 1), 1000);
    }

    private static void couponEdges09() {
        TurnedBonds x = new TurnedBonds();
        x.tree(6, 100);
        x.bond(0, 1, 0);
        for (int t = 1; t <= 6; t++) {
            due("9: of DAY " + t, x.coupon(0, t, 1000), 0);
        }
        due("9: six of the most", x.value(0), 6001);
        due("9: on DAY 0 none", x.here(0, 4), 0);
        x.tree(5, 100);
        due("9: behind T none", x.value(0), 5001);
        due("9: 0 again", x.coupon(0, 5, 0), 1000);
        due("9: of T none", x.value(0), 4001);
    }

    private static void rightsOfDays10() {
        TurnedBonds x = new TurnedBonds();
        x.tree(6, 100);
        x.bond(0, 10000, 0);
        for (int t = 0; t <= 5; t++) {
            x.call(0, t, t + 1);
            due("10: CALLED on DAY " + t, x.value(0), t + 1);
            due("10: none any more", x.call(0, t, -1), t + 1);
            x.put(0, t, 20000 + t);
            due("11: PUT on DAY " + t, x.value(0), 20000 + t);
            due("11: none any more", x.put(0, t, -1), 20000 + t);
        }
        due("10: none", x.value(0), 10000);
        x.tree(5, 100);
        x.call(0, 5, 0);
        x.put(0, 5, MILLION);
        due("10, 11: on T neither counts", x.value(0), 10000);
        x.call(0, 4, 0);
        due("10: at 0 there is one", x.value(0), 0);
        due("10: at 0, told", x.told(0, 24), 0);
        x.put(0, 4, 0);
        due("11: at 0 there is one", x.told(0, 34), 0);
        x.put(0, 4, MILLION);
        due("11: the most", x.value(0), MILLION);
        x.call(0, 4, MILLION);
        x.put(0, 4, -1);
        due("10: the most is no use to the issuer", x.value(0), 10000);
    }

    private static void windowEdges12() {
        TurnedBonds x = new TurnedBonds();
        x.tree(6, 100);
        for (int day = 0; day <= 6; day++) {
            yes("12: one DAY", x.window(0, day, day));
            for (int t = 0; t <= 6; t++) {
                x.drawn(5, t);
                due("12: " + day + " on DAY " + t, x.here(0, 1) == -2 ? 0 : 1, t == day ? 1 : 0);
            }
        }
        yes("12: 2 to 4", x.window(0, 2, 4));
        for (int t = 0; t <= 6; t++) {
            x.drawn(5, t);
            due("12: 2 to 4 on DAY " + t, x.here(0, 1) == -2 ? 0 : 1, t >= 2 && t <= 4 ? 1 : 0);
        }
        TurnedBonds y = doubling(1);
        y.window(0, 0, 0);
        due("12: T is not in WINDOW", onPath(y, "u").act(0), 5);
        due("12: so FACE", y.value(0), 10000);
        y.window(0, 1, 1);
        due("12: T is in WINDOW", y.act(0), 6);
        y.window(0, 6, 6);
        due("12: WINDOW behind T", y.act(0), 5);
    }

    private static void softEdges13() {
        TurnedBonds x = doubling(4);
        for (int t = 0; t <= 3; t++) {
            x.call(0, t, 1);
        }
        String[] rows = {"", "u", "uu", "uuu", "uuuu"};
        for (int w = 1; w <= 3; w++) {
            for (int m = 0; m <= w; m++) {
                x.soft(0, m, w, 10000);
                for (int t = 0; t <= 4; t++) {
                    onPath(x, rows[t]);
                    int high = Math.min(w, t + 1);
                    due("13: of the latest " + w + " on DAY " + t, x.here(0, 3), high);
                    if (t < 4) {
                        due("13: free by " + m + " of " + w + " on DAY " + t, x.here(0, 2), high >= m ? 1 : 0);
                    }
                }
            }
        }
        x.soft(0, 1, 3, 10001);
        onPath(x, "du");
        due("13: one penny less than L on all", x.here(0, 3), 0);
        x.soft(0, 1, 3, 10000);
        due("13: just L, twice", x.here(0, 3), 2);
        onPath(x, "dud");
        due("13: the DAY four back does not count", x.here(0, 3), 1);
        x.soft(0, 1, 3, 0);
        due("13: L 0", x.here(0, 3), 3);
        TurnedBonds y = new TurnedBonds();
        y.tree(1, 1000);
        y.move(true, 10, 1);
        y.soft(0, 1, 1, MILLION);
        due("13: L the most, just reached", onPath(y, "u").here(0, 3), 1);
        due("13: L the most", onPath(y, "d").here(0, 3), 0);
        y.tree(6, 1);
        y.move(false, 1, 20);
        y.soft(0, 1, 1, 0);
        due("13: 0 pence are L 0", onPath(y, "dddddd").here(0, 3), 1);
    }

    private static void settlingEdges14() {
        TurnedBonds x = new TurnedBonds();
        x.tree(1, 1);
        x.move(true, 19, 10);
        x.move(false, 1, 20);
        long[][] wants = {{190, 5, 100}, {145, 52, 100}, {145, 5, 100}, {190, 52, 100}};
        for (int way = 0; way <= 3; way++) {
            x.settle(0, way);
            due("14: up " + way, onPath(x, "u").here(0, 1), wants[way][0]);
            due("14: down " + way, onPath(x, "d").here(0, 1), wants[way][1]);
            due("14: DAY 0, its own again " + way, onPath(x, "").here(0, 1), wants[way][2]);
        }
        x.bond(0, 1, 1);
        x.settle(0, 1);
        due("14: 1 * 290 / 200", onPath(x, "u").here(0, 1), 1);
        due("14: 1 * 105 / 200", onPath(x, "d").here(0, 1), 0);
        x.settle(0, 0);
        due("14: 1 * 190 / 100", onPath(x, "u").here(0, 1), 1);
        due("14: 1 * 5 / 100", onPath(x, "d").here(0, 1), 0);
        TurnedBonds y = onPath(dearest(), "uuuuuu");
        y.bond(0, 1, 1000);
        y.settle(0, 1);
        due("14: the dearest and the DAY ahead", y.here(0, 1), 33600000000000L);
    }

    // ---- texts

    private static void boundsOfTexts15() {
        TurnedBonds x = new TurnedBonds();
        Object[][] texts = {
            {"f0", -3001}, {"f1", 1}, {"f1000000", 1}, {"f1000001", -3001}, {"f9999999", -3001}, {"f10000000", -2008},
            {"n0", 1}, {"n1000", 1}, {"n1001", -3001}, {"n0001000", 1}, {"n00001000", -2008},
            {"c0", 1}, {"c9", 1}, {"c10", 1}, {"c1000", 1}, {"c1001", -3001}, {"c0:0", -3001}, {"c1:0", 1},
            {"c6:1000", 1}, {"c7:0", -3001}, {"c9:0", -3001}, {"c1:1001", -3003}, {"c01:1", -1003},
            {"k0:0", 1}, {"k5:1000000", 1}, {"k5:1000001", -3003}, {"k6:0", -3001}, {"k9:-", -3001}, {"k0:-", 1},
            {"k5:-", 1}, {"k5:-1", -1004}, {"p0:0", 1}, {"p5:1000000", 1}, {"p5:1000001", -3003}, {"p6:0", -3001},
            {"p0:-", 1}, {"p5:-", 1}, {"w0-0", 1}, {"w6-6", 1}, {"w0-6", 1}, {"w6-5", -3003}, {"w1-0", -3003},
            {"w0-7", -3003}, {"w7-6", -3001}, {"w9-9", -3001}, {"w0--", -1003}, {"s0/1/0", 1}, {"s1/1/0", 1},
            {"s2/1/0", -3003}, {"s2/2/0", 1}, {"s3/2/0", -3003}, {"s3/3/1000000", 1}, {"s3/3/1000001", -3005},
            {"s4/4/0", -3001}, {"s0/0/0", -3003}, {"s0/4/0", -3003}, {"s0/3/12345678", -2012}, {"z0", 1}, {"z3", 1},
            {"z4", -3001}, {"z9", -3001}};
        for (Object[] t : texts) {
            due("15: '" + t[0] + "'", tell(x, 0, (String) t[0]), (Integer) t[1]);
        }
    }

    private static void placesInTexts15() {
        TurnedBonds x = new TurnedBonds();
        Object[][] texts = {
            {"f\t1", -1001}, {"f\n1", -1001}, {"f1\0", -1002}, {"f1 2", -1003}, {"f 1000001 ", -3002},
            {"  f0", -3003}, {"  f  0", -3005}, {"f1 ", 1}, {"   f1", 1}, {"f1f", -1003}, {"f1 f ", -1005}, {"c7 ", 1},
            {"c 7 :", -3002}, {"c 6 :", -1005}, {"c9 x", -1003}, {"c12 :3", -1004}, {"c1001 :", -3001}, {"w7", -3001},
            {"w7x", -3001}, {"s4x", -3001}, {"s0/9", -3003}, {"k1:0000000", 1}, {"k1:00000000", -2010}, {":", -1000},
            {"-", -1000}, {"z3z", -1003}, {"f12345678x", -2008}, {"f1234567x", -3001}, {"s1/ 2 / 3", 1},
            {"w 1 - 2", 1}, {"k 1 : -", 1}, {"p 1 : 5", 1}, {"z 1", 1}, {"n 1", 1}};
        for (Object[] t : texts) {
            due("15: '" + t[0] + "'", tell(x, 0, (String) t[0]), (Integer) t[1]);
        }
    }

    private static void lengthsOfTexts15() {
        TurnedBonds x = new TurnedBonds();
        String blanks = " ".repeat(98);
        due("15: fifty CLAUSES in 100 bytes", tell(x, 0, "z0".repeat(49) + "z3"), 50);
        due("15: the last of them counts", x.told(0, 7), 3);
        due("15: at the 100th byte", tell(x, 0, blanks + "f1"), 1);
        due("15: the 100th byte is wrong", tell(x, 0, blanks + "fx"), -1099);
        due("15: the end is wrong", tell(x, 0, " " + blanks + "f"), -1100);
        due("15: an eighth digit is the 100th byte", tell(x, 0, blanks.substring(7) + "f00000001"), -2099);
        due("15: no such number at the end", tell(x, 0, blanks + "z4"), -3099);
        due("15: one byte", tell(x, 0, "f"), -1001);
        due("15: one byte, wrong", tell(x, 0, "5"), -1000);
        Check.feed(x, "f123");
        due("15: what stands behind n is not read", x.terms(0, 3), 1);
        due("15: 12", x.told(0, 0), 12);
        Check.feed(x, "f123");
        due("15: nor a first digit", x.terms(0, 1), -1001);
        Check.feed(x, "f00000345");
        due("15: nor an eighth digit", x.terms(0, 8), 1);
        due("15: 34", x.told(0, 0), 34);
        Check.feed(x, "c3:7");
        due("15: nor a :", x.terms(0, 2), 1);
        due("15: c N", x.told(0, 16), 3);
        due("15: seven digits, the most", tell(x, 0, "f1000000n0001000c0001000k5:1000000s3/3/1000000"), 5);
        yes("15: told", letters(x, 0).equals(
                "f1000000n1000c1:1000c2:1000c3:1000c4:1000c5:1000c6:1000k5:1000000w0-6s3/3/1000000z3"));
    }

    private static void toldTwice15() {
        TurnedBonds x = new TurnedBonds();
        tell(x, 0, "c5c2:7");
        due("15: of DAY 1", x.told(0, 11), 5);
        due("15: of DAY 2, the latter", x.told(0, 12), 7);
        tell(x, 0, "c2:8c6");
        due("15: all, the latter", x.told(0, 12), 6);
        tell(x, 0, "k1:5k1:-p1:-p1:5");
        due("15: CALL none", x.told(0, 21), -2);
        due("15: PUT", x.told(0, 31), 5);
        tell(x, 0, "w1-2w3-4s1/1/5s0/2/6z1z2n1n2");
        yes("15: the latter counts", letters(x, 0).equals("f10000n2c1:6c2:6c3:6c4:6c5:6c6:6p1:5w3-4s0/2/6z2"));
        due("15: a FAULT behind all", tell(x, 0, "f1n1c1:1k1:1p1:1w1-1s1/1/1z1x"), -1028);
        yes("15: with a FAULT all stay", letters(x, 0).equals("f10000n2c1:6c2:6c3:6c4:6c5:6c6:6p1:5w3-4s0/2/6z2"));
        tell(x, 1, "f5");
        yes("15: not told, it stays", letters(x, 1).equals("f5n100w0-6s0/1/0z0"));
        yes("15: nor another BOND", letters(x, 2).equals("f10000n100w0-6s0/1/0z0"));
    }

    private static void copyEdges17() {
        TurnedBonds x = new TurnedBonds();
        for (int k = 0; k < 3; k++) {
            x.bond(k, k + 1, k);
        }
        yes("17: to the last", x.copy(0, 2));
        due("17: as the first", x.told(2, 0), 1);
        due("17: the first stays", x.told(0, 0), 1);
        yes("17: to the first", x.copy(1, 0));
        due("17: as the second", x.told(0, 0), 2);
        due("17: the last stays", x.told(2, 0), 1);
    }

    // ---- 18 to 20: the path

    private static void pathEdges18() {
        TurnedBonds x = doubling(6);
        Check.feed(x, "uuuuuux");
        due("18: beyond T", x.path(7), -1);
        due("18: as long as T, behind it nothing is read", x.path(6), 6);
        due("18: six", x.went(0), 6);
        Check.feed(x, "uuuuux");
        due("18: the last byte is another", x.path(6), -2);
        due("18: THE PATH stays", x.went(1), 6);
        due("18: an empty row of an empty tape", x.path(0), 0);
        due("18: empty", x.went(0), 0);
        due("18: too long for an empty tape", x.path(1), -1);
        x.tree(1, 100);
        Check.feed(x, "ud");
        due("18: beyond T 1", x.path(2), -1);
        due("18: the tape stays", x.count(9), 20);
        due("18: one", x.path(1), 1);
        due("18: the tape is empty", x.count(9), 0);
    }

    private static void drawsGoRound19() {
        TurnedBonds x = new TurnedBonds();
        x.tree(6, 100);
        Object[][] seeds = {{0, "uddddu"}, {65536, "uddddu"}, {Integer.MIN_VALUE, "uddddu"}, {65535, "dduuuu"},
            {-1, "dduuuu"}, {Integer.MAX_VALUE, "dduuuu"}, {3915, "uudddd"}, {33870, "ddduuu"}, {45122, "uuuddd"},
            {15167, "dduuuu"}};
        for (Object[] s : seeds) {
            String want = (String) s[1];
            due("19: seed " + s[0], x.drawn((Integer) s[0], 6), want.replace("d", "").length());
            yes("19: moves of seed " + s[0], moves(x).equals(want));
        }
        // seed 65535 of 20: 13 19 2 2 12 14
        x.chance(13, 20);
        x.drawn(65535, 6);
        yes("19: 13 is not below 13", moves(x).equals("dduuud"));
        x.chance(14, 20);
        x.drawn(65535, 6);
        yes("19: 13 is below 14", moves(x).equals("uduuud"));
        x.chance(19, 20);
        x.drawn(65535, 6);
        yes("19: 19 is not below 19", moves(x).equals("uduuuu"));
        x.chance(1, 20);
        // seed 0 of 20: 2 5 5 15 1 16
        due("19: 1 is not below 1", x.drawn(0, 6), 0);
        due("19: as many as T", x.went(0), 6);
        due("19: none", x.drawn(0, 0), 0);
        due("19: none", x.went(0), 0);
        x.tree(1, 100);
        x.chance(1, 2);
        due("19: T 1", x.drawn(0, 1), 1);
        due("19: beyond T 1", x.drawn(0, 2), -1);
        due("19: THE PATH stays", x.went(0), 1);
    }

    private static void wentEdges20() {
        TurnedBonds x = new TurnedBonds();
        due("20: empty", x.went(0), 0);
        due("20: no up", x.went(1), 0);
        due("20: no move 0", x.went(10), -1);
        x.tree(6, 100);
        onPath(x, "uddddu");
        due("20: the first", x.went(10), 1);
        due("20: the last", x.went(15), 1);
        due("20: the last but one", x.went(14), 0);
        due("20: no seventh", x.went(16), -1);
    }

    // ---- 21 to 31: what it is worth

    private static void dearestValues21() {
        TurnedBonds x = dearest();
        x.bond(0, MILLION, 1000);
        due("21: ten of the dearest", x.value(0), 64000000000000L);
        x.chance(19, 20);
        due("21: by 19 in 20", x.value(0), 64000000000000L);
        x.rate(200);
        // through 1.2 on each of six DAYS, cut down
        due("21: RATE 200", x.value(0), 21433470507543L);
        x.settle(0, 1);
        due("21: in CASH on T", onPath(x, "dddddd").value(0), 33600000000000L);
        x.settle(0, 0);
        x.copy(0, 1);
        x.copy(0, 2);
        due("52: three hundred", x.book(100, 100, 100), 6430041152262900L);
        due("52: less three hundred", x.book(-100, -100, -100), -6430041152262900L);
        due("44: a hundred rows", x.run(0, 1, 100), 6400000000000000L);
        due("45: the most", x.extreme(0, true, 0), 64000000000000L);
        due("45: the first row", x.extreme(0, true, 1), 0);
        due("36: none that makes it so little", x.fairRate(0, 21433470507542L), -2);
        due("36: the highest just does", x.fairRate(0, 21433470507543L), 200);
        due("33: the most just does", x.fairRatio(0, 21433470507543L), 1000);
        due("33: none does", x.fairRatio(0, 21433470507544L), -2);
        due("48: no shares where PRICES are alike", x.hedged(0) <= 0 ? 1 : 0, 1);
    }

    private static void oneCut21() {
        TurnedBonds x = new TurnedBonds();
        x.tree(1, 1);
        x.move(true, 2, 1);
        x.move(false, 1, 1);
        x.bond(0, 1, 1);
        x.rate(200);
        // up 2, down 1: 3000 / 2400 is cut once; the mean cut ahead of RATE would give 0
        due("21: cut once", x.here(0, 0), 1);
        x.window(0, 1, 1);
        due("21: cut once", x.value(0), 1);
        x.window(0, 6, 6);
        due("21: 1 and 1: 2000 / 2400", x.value(0), 0);
    }

    private static void hereEdges22() {
        TurnedBonds x = doubling(1);
        due("22: HOLD ahead of T", x.here(0, 0), 15000);
        due("22: COUPON of DAY 0", x.here(0, 4), 0);
        due("22: no CALL", x.here(0, 2), 0);
        x.call(0, 0, 0);
        due("22: a CALL at 0", x.here(0, 2), 1);
        x.soft(0, 1, 1, 10000);
        due("22: free, just L", x.here(0, 2), 1);
        x.soft(0, 1, 1, 10001);
        due("22: not free", x.here(0, 2), 0);
        x.coupon(0, 1, 1000);
        onPath(x, "d");
        due("22: no HOLD on T", x.here(0, 0), -2);
        due("22: TURNED on T", x.here(0, 1), 5000);
        due("22: COUPON on T", x.here(0, 4), 1000);
    }

    /** HOLD is 15000 on DAY 0, TURNED 10000; what is alike to the penny. */
    private static void tiesOfActs23() {
        TurnedBonds x = doubling(1);
        due("23: HOLD above TURNED", x.act(0), 0);
        x.put(0, 0, 15000);
        due("23: PUT as HOLD", x.act(0), 0);
        x.put(0, 0, 15001);
        due("23: PUT a penny more", x.act(0), 1);
        x.call(0, 0, 15000);
        due("23: CALL as HOLD is no use", x.act(0), 1);
        x.put(0, 0, -1);
        due("23: CALL as HOLD is no use", x.act(0), 0);
        x.call(0, 0, 14999);
        due("23: CALL a penny less", x.act(0), 3);
        x.put(0, 0, 14999);
        due("23: PUT as CALLED", x.act(0), 3);
        x.put(0, 0, 15000);
        due("23: PUT a penny more than CALLED", x.act(0), 1);
        due("23: its VALUE", x.value(0), 15000);
        x.put(0, 0, -1);
        x.call(0, 0, 10001);
        due("23: CALL a penny more than TURNED", x.act(0), 3);
        x.call(0, 0, 10000);
        due("23: CALL as TURNED", x.act(0), 3);
        x.call(0, 0, 9999);
        due("23: CALL a penny less than TURNED", x.act(0), 4);
        x.window(0, 1, 1);
        due("23: out of WINDOW", x.act(0), 3);
        due("23: its VALUE", x.value(0), 9999);
    }

    private static void tiesOfTurned23() {
        TurnedBonds x = new TurnedBonds();
        x.tree(1, 100);
        x.move(true, 1, 1);
        x.move(false, 1, 1);
        x.bond(0, 10000, 100);
        due("23: TURNED as HOLD", x.act(0), 0);
        due("23: TURNED as FACE on T", onPath(x, "u").act(0), 5);
        x.bond(0, 9999, 100);
        due("23: TURNED a penny more than FACE", x.act(0), 6);
        onPath(x, "");
        x.rate(1);
        // HOLD is 10000000 / 1001
        due("23: TURNED more than HOLD", x.act(0), 2);
        x.put(0, 0, 9999);
        due("23: PUT a penny less than TURNED", x.act(0), 2);
        x.put(0, 0, 10000);
        due("23: PUT as TURNED", x.act(0), 1);
        x.put(0, 0, -1);
        x.call(0, 0, 0);
        due("23: a CALL gives as TURNED, more than HOLD", x.act(0), 2);
        x.bond(0, 9999, 0);
        x.window(0, 1, 1);
        x.put(0, 0, 0);
        due("23: PUT at 0, CALL at 0", x.act(0), 3);
        x.call(0, 0, -1);
        due("23: PUT at 0", x.act(0), 0);
    }

    private static void alongEdges24() {
        TurnedBonds x = doubling(2);
        x.put(0, 0, MILLION);
        due("24: ENDS on DAY 0 of an empty PATH", x.along(0, 0), 0);
        due("24: by PUT", x.along(0, 1), 1);
        due("24: paid", x.along(0, 2), MILLION);
        due("24: and of a longer one", onPath(x, "ud").along(0, 0), 0);
        x.put(0, 0, -1);
        due("24: on T", x.along(0, 0), 2);
        due("24: goes on behind one move", onPath(x, "u").along(0, 0), -2);
        x.call(0, 1, 0);
        due("24: the last STATE of THE PATH counts", x.along(0, 0), 1);
        x.coupon(0, 1, 1000);
        x.coupon(0, 2, 1000);
        due("24: COUPON of its DAY, none behind", x.along(0, 2), 21000);
        x.bond(0, 10000, 0);
        due("24: called at 0", x.along(0, 2), 1000);
    }

    private static void allBitsOfWithout25() {
        TurnedBonds x = new TurnedBonds();
        x.tree(1, 100);
        tell(x, 0, "k0:9000p0:9500s1/1/10001");
        // HOLD 11000, TURNED 10000, CALL not free; without turning HOLD 10000
        long[] wants = {11000, 11000, 11000, 11000, 10000, 10000, 10000, 10000,
            10000, 11000, 10000, 11000, 9500, 10000, 9000, 10000};
        for (int some = 0; some < 16; some++) {
            due("25: " + some, x.without(0, some), wants[some]);
        }
        long[] rights = {0, 0, -1000, -1000};
        for (int which = 0; which < 4; which++) {
            due("26: " + which, x.right(0, which), rights[which]);
        }
        x.soft(0, 0, 1, 0);
        due("26: CALLS when free", x.right(0, 0), 1000);
        due("26: SOFT when free", x.right(0, 3), 0);
        tell(x, 1, "f11998");
        due("26: -1 is an answer", x.right(1, 2), -1);
    }

    private static void leastChances27() {
        TurnedBonds x = doubling(6);
        x.chance(1, 20);
        x.bond(0, 639999, 100);
        // turned at six ups alone
        due("27: 1 in 64000000, top", x.ends(0, 6, 0), 1);
        due("27: 1 in 64000000, bottom", x.ends(0, 6, 1), 64000000);
        due("27: else, top", x.ends(0, 5, 0), 63999999);
        due("27: else, bottom", x.ends(0, 5, 1), 64000000);
        for (int act = 1; act <= 4; act++) {
            due("27: never, top", x.ends(0, act, 0), 0);
            due("27: never, bottom", x.ends(0, act, 1), 1);
        }
        due("28: six DAYS, top", x.life(0, 0), 6);
        due("28: six DAYS, bottom", x.life(0, 1), 1);
        due("30: six ups", x.first(0, 6, false), 6);
        x.bond(0, 640000, 100);
        due("27: always, top", x.ends(0, 5, 0), 1);
        due("27: always, bottom", x.ends(0, 5, 1), 1);
        due("30: as much as FACE", x.first(0, 6, false), -2);
        x.call(0, 0, 0);
        due("28: at once, top", x.life(0, 0), 0);
        due("28: at once, bottom", x.life(0, 1), 1);
        due("27: at once, top", x.ends(0, 4, 0), 1);
        x.call(0, 0, -1);
        x.call(0, 5, 320000);
        x.soft(0, 1, 1, 320000);
        // called at five ups, which TURNED gives as much for: 1 / 3200000 on DAY 5
        due("27: on DAY 5, top", x.ends(0, 3, 0), 1);
        due("27: on DAY 5, bottom", x.ends(0, 3, 1), 3200000);
        due("28: 6 less 1 / 3200000, top", x.life(0, 0), 19199999);
        due("28: 6 less 1 / 3200000, bottom", x.life(0, 1), 3200000);
    }

    private static void statesEdges29() {
        TurnedBonds x = doubling(6);
        x.window(0, 6, 6);
        for (int t = 0; t <= 6; t++) {
            due("29: no marks but one kind, DAY " + t, x.states(0, t), t == 0 ? 1 : 2 * t);
        }
        x.put(0, 5, MILLION - 1);
        due("29: on the DAY on which all END", x.states(0, 5), 10);
        due("29: behind it none", x.states(0, 6), 0);
        due("47: of none not so many", x.table(0, 6, 0, 0), -2);
        due("30: of none none", x.first(0, 6, false), -2);
        x.put(0, 0, MILLION);
        due("29: on DAY 0 one", x.states(0, 0), 1);
        due("29: then none", x.states(0, 1), 0);
        x.put(0, 0, -1);
        x.put(0, 5, -1);
        x.call(0, 0, MILLION);
        due("30: called on DAY 0: not", x.first(0, 0, true), -2);
        x.call(0, 0, 0);
        due("30: no up on DAY 0", x.first(0, 0, true), 0);
        due("30: not turned", x.first(0, 0, false), -2);
    }

    private static void heldEdges31() {
        TurnedBonds x = doubling(1);
        due("31: ahead of T", x.held(0), 666);
        due("31: on T", onPath(x, "u").held(0), -2);
        x.move(true, 1, 2);
        due("31: on T, alike or not", x.held(0), -2);
        due("31: alike", onPath(x, "").held(0), -3);
        TurnedBonds y = new TurnedBonds();
        y.tree(2, 1);
        y.move(true, 1, 20);
        y.move(false, 1, 19);
        // 0.25 and 0.26 pence behind 5; 5 and 5.26 behind 100
        due("31: alike when cut to pence", y.held(0), -3);
        due("31: both 0 pence", onPath(y, "u").held(0), -3);
        y.tree(1, 1);
        y.move(false, 6, 20);
        tell(y, 0, "w1-1f1n1000");
        // 5 and 30 pence, turned 50 and 300: -250000 / -25
        due("31: up is the lower one", y.held(0), 10000);
        TurnedBonds z = new TurnedBonds();
        z.tree(2, 100);
        z.move(true, 1, 1);
        z.move(false, 19, 20);
        tell(z, 0, "n0f1000000k1:0s1/1/10000");
        // up is called at 0: 1000 * -1000000 / 500
        due("31: below 0", z.held(0), -2000000);
        z.bond(0, 1, 0);
        due("31: -1000 / 500 is -2 as a number", z.held(0), -2);
        z.move(false, 9, 10);
        due("31: -1000 / 1000", z.held(0), -1);
        z.move(false, 8, 10);
        due("31: -1000 / 2000, cut towards 0", z.held(0), 0);
    }

    // ---- 32 to 36: fair ones

    private static void fairEdges32() {
        TurnedBonds x = new TurnedBonds();
        x.tree(1, 1);
        x.bond(0, 1, 0);
        due("32: 0", x.fairCoupon(0, 1), 0);
        due("32: 1", x.fairCoupon(0, 2), 1);
        due("32: 999", x.fairCoupon(0, 1000), 999);
        due("32: 1000", x.fairCoupon(0, 1001), 1000);
        due("32: none", x.fairCoupon(0, 1002), -2);
        due("32: aim 0", x.fairCoupon(0, 0), 0);
        due("32: aim -1", x.fairCoupon(0, -1), 0);
        x.coupon(0, 1, 1000);
        due("32: its own does not count", x.fairCoupon(0, 1002), -2);
        x.coupon(0, 1, 0);
        x.call(0, 0, 0);
        due("32: CALLED at 0 whatever the COUPON", x.fairCoupon(0, 1), -2);
        TurnedBonds y = new TurnedBonds();
        y.tree(1, 100);
        y.bond(0, 1, 5);
        y.window(0, 0, 0);
        // TURNED on DAY 0: RATIO times 100 pence; else FACE
        due("33: 0", y.fairRatio(0, 1), 0);
        due("33: 1", y.fairRatio(0, 2), 1);
        due("33: 1, the most it gives", y.fairRatio(0, 100), 1);
        due("33: 2", y.fairRatio(0, 101), 2);
        due("33: 1000", y.fairRatio(0, 100000), 1000);
        due("33: 1000", y.fairRatio(0, 99901), 1000);
        due("33: 999", y.fairRatio(0, 99900), 999);
        due("33: none", y.fairRatio(0, 100001), -2);
        due("33: lowest aim", y.fairRatio(0, Long.MIN_VALUE), 0);
        due("33: highest aim", y.fairRatio(0, Long.MAX_VALUE), -2);
    }

    /** Every COUPON and RATIO is the least one for some aim. */
    private static void eachFairOne32() {
        for (int begin = 0; begin <= 1000; begin += 250) {
            TurnedBonds x = new TurnedBonds();
            x.tree(1, 100);
            x.bond(0, 1, 0);
            x.window(0, 0, 0);
            for (int fair = begin; fair < begin + 250 && fair <= 1000; fair++) {
                due("32: " + fair, x.fairCoupon(0, fair + 1), fair);
                due("33: " + fair, x.fairRatio(0, Math.max(1, 100 * fair)), fair);
            }
        }
        TurnedBonds y = new TurnedBonds();
        y.tree(1, 1);
        y.bond(0, MILLION, 0);
        for (int fair = 0; fair <= 200; fair++) {
            due("36: " + fair, y.fairRate(0, 1000000000 / (1000 + fair)), fair);
        }
    }

    private static void fairRateEdges36() {
        TurnedBonds x = new TurnedBonds();
        x.tree(1, 1);
        x.bond(0, 12000, 0);
        due("36: 0", x.fairRate(0, 12000), 0);
        due("36: 1", x.fairRate(0, 11999), 1);
        due("36: 1", x.fairRate(0, 11988), 1);
        due("36: 2", x.fairRate(0, 11987), 2);
        // 12000000 / 1199 is 10008
        due("36: 199", x.fairRate(0, 10008), 199);
        due("36: 200", x.fairRate(0, 10007), 200);
        due("36: 200", x.fairRate(0, 10000), 200);
        due("36: none", x.fairRate(0, 9999), -2);
        due("36: lowest aim", x.fairRate(0, Long.MIN_VALUE), -2);
        due("36: highest aim", x.fairRate(0, Long.MAX_VALUE), 0);
        x.put(0, 0, 12000);
        due("36: PUT at 12000 whatever the RATE", x.fairRate(0, 11999), -2);
    }

    private static void bestDays34() {
        TurnedBonds x = doubling(1);
        due("34: T 1 has DAY 0 alone", x.bestCall(0, 0, 0), 0);
        due("34: CALLED, turned", x.bestCall(0, 0, 1), 10000);
        due("34: the most is no use", x.bestCall(0, MILLION, 1), 15000);
        due("35: T 1 has DAY 0 alone", x.bestPut(0, MILLION, 0), 0);
        due("35: the most", x.bestPut(0, MILLION, 1), MILLION);
        due("35: at 0 no use", x.bestPut(0, 0, 1), 15000);
        x.call(0, 0, 0);
        due("34: in place of the only one", x.bestCall(0, MILLION, 1), 15000);
        due("34: T itself is none of the DAYS", x.bestCall(0, MILLION, 0), 0);
        x.call(0, 0, -1);
        x.put(0, 0, 20000);
        due("35: in place of the only one", x.bestPut(0, 0, 1), 15000);
        due("35: T itself is none of the DAYS", x.bestPut(0, 0, 0), 0);
        TurnedBonds y = doubling(6);
        tell(y, 0, "w6-6f1s1/1/320000");
        due("34: free on DAY 5 alone", y.bestCall(0, 0, 0), 5);
        y.tree(5, 100);
        y.window(0, 5, 5);
        due("34: DAY 5 is T: no use", y.bestCall(0, 0, 0), 0);
        y.tree(6, 100);
        y.window(0, 6, 6);
        // five downs hold 390, four of four 976: one of 32 gains 610, one of 16 gains 24
        due("35: DAY 5", y.bestPut(0, 1000, 0), 5);
        y.tree(2, 100);
        y.window(0, 2, 2);
        // up holds 25000, down 6250; DAY 0 15625
        due("35: DAY 1", y.bestPut(0, 10000, 0), 1);
        due("35: 25000 and 10000", y.bestPut(0, 10000, 1), 17500);
        due("35: alike: the first", y.bestPut(0, 6250, 0), 0);
        due("35: alike", y.bestPut(0, 6250, 1), 15625);
    }

    // ---- 37 to 42: otherwise, by hand

    private static void insteadEdges37() {
        TurnedBonds x = doubling(1);
        tell(x, 0, "k0:0p0:0c1:7");
        due("37: HOLD", x.instead(0, 0), 15007);
        due("37: PUT at 0", x.instead(0, 1), 0);
        due("37: TURNED", x.instead(0, 2), 10000);
        due("37: CALLED at 0, turned", x.instead(0, 3), 10000);
        x.window(0, 1, 1);
        due("37: TURNED out of WINDOW", x.instead(0, 2), -2);
        due("37: CALLED at 0 out of WINDOW", x.instead(0, 3), 0);
        x.soft(0, 1, 1, 10001);
        due("37: not free", x.instead(0, 3), -2);
        x.soft(0, 1, 1, 10000);
        due("37: just free", x.instead(0, 3), 0);
        x.call(0, 0, -1);
        due("37: no CALL", x.instead(0, 3), -2);
        x.put(0, 0, -1);
        due("37: no PUT", x.instead(0, 1), -2);
        onPath(x, "d");
        due("37: FACE on T and COUPON", x.instead(0, 0), 10007);
        due("37: TURNED on T", x.instead(0, 2), 5007);
        x.window(0, 0, 0);
        due("37: TURNED on T out of WINDOW", x.instead(0, 2), -2);
        TurnedBonds y = doubling(6);
        onPath(y, "uuuuuu");
        due("37: DAY 6, PUT", y.instead(0, 1), -2);
        due("37: DAY 6, CALL", y.instead(0, 3), -2);
        due("37: DAY 6, TURNED", y.instead(0, 2), 640000);
    }

    private static void shiftedEdges38() {
        TurnedBonds x = doubling(1);
        x.bond(0, 1, 100);
        x.window(0, 1, 1);
        due("38: least", x.shifted(0, 1, 1, 20), (200 + 19 * 50) / 20);
        due("38: most", x.shifted(0, 1000, 19, 20), (19 * 200000 + 50000) / 20);
        due("38: 1 in 2", x.shifted(0, 1000, 1, 2), 125000);
        onPath(x, "u");
        due("38: on DAY 0 whatever THE PATH", x.shifted(0, 1, 1, 2), 125);
        due("38: THE PATH stays", x.went(0), 1);
        due("38: S stays", x.count(1), 100);
        due("38: p stays", x.count(6), 1);
        due("38: q stays", x.count(7), 2);
    }

    private static void byHandEdges39() {
        TurnedBonds x = doubling(1);
        due("39: open", x.open(0), 15000);
        due("42: DAY 0", x.byHand(1), 0);
        due("42: goes on", x.byHand(0), 1);
        due("40: to T", x.go(true), 1);
        due("40: T is the last", x.go(true), -2);
        due("42: DAY", x.byHand(1), 1);
        due("42: it goes on until does()", x.byHand(0), 1);
        due("41: FACE on T", x.does(0), 10000);
        due("42: REGRET: 20000 less FACE", x.byHand(3), 10000);
        due("42: over", x.byHand(0), 0);
        due("42: its DAY stays", x.byHand(1), 1);
        due("39: again", x.open(2), 15000);
        due("42: nothing paid", x.byHand(2), 0);
        due("42: no REGRET", x.byHand(3), 0);
        due("41: TURNED on DAY 0", x.does(2), 10000);
        due("42: REGRET", x.byHand(3), 5000);
        due("40: over", x.go(false), -2);
        TurnedBonds y = doubling(6);
        y.open(0);
        y.tree(1, 1);
        for (int day = 1; day <= 6; day++) {
            due("40: DAY", y.go(true), day);
        }
        due("40: six are all", y.go(true), -2);
        due("41: turned on DAY 6", y.does(2), 640000);
    }

    private static void handOfOtherTree39() {
        TurnedBonds x = doubling(2);
        tell(x, 0, "k1:0p1:0c1:1000c2:1000w2-2f1");
        x.open(0);
        tell(x, 0, "f9n9k1:-p1:-c0w0-6");
        x.move(true, 1, 1);
        x.rate(200);
        x.chance(1, 20);
        due("40: DAY 1", x.go(true), 1);
        due("40: COUPON as it was", x.byHand(2), 1000);
        due("42: CALLED at 0 as it was", x.byHand(4), 3);
        due("41: TURNED out of WINDOW as it was", x.does(2), -3);
        due("41: PUT as it was", x.does(1), 1000);
        // VALUE is 1000 and 0: CALLED at 0
        due("42: no REGRET of DAY 1; of DAY 0 none either", x.byHand(3), 0);
        x.undo();
        due("42: nothing undone", x.byHand(2), 1000);
    }

    private static void regretWithoutSign42() {
        TurnedBonds x = doubling(1);
        tell(x, 0, "k0:9000w1-1p0:14000");
        // HOLD 15000: PUT is more than CALLED gives, so VALUE 14000
        due("42: VALUE", x.open(0), 14000);
        x.go(true);
        due("42: 14000 less 15000, without sign", x.byHand(3), 1000);
        due("41: turned", x.does(2), 20000);
        due("42: no more", x.byHand(3), 1000);
        x.open(0);
        x.does(3);
        due("42: 14000 less 9000", x.byHand(3), 5000);
        x.open(0);
        x.go(false);
        x.does(2);
        due("42: 1000, and 10000 less 5000", x.byHand(3), 6000);
    }

    // ---- 43 to 49

    private static void ruleEdges43() {
        TurnedBonds x = doubling(2);
        x.call(0, 1, 20000);
        x.call(0, 0, 0);
        due("43: PRICE as turnAt", x.byRule(0, 10000, 0, true), 2);
        due("43: a penny below turnAt, PRICE as callAt", x.byRule(0, 10001, 10000, true), 4);
        due("43: a penny below both", x.byRule(0, 10001, 10001, true), 0);
        onPath(x, "u");
        due("43: CALL as TURNED", x.byRule(0, 20001, 20000, true), 3);
        x.call(0, 1, 19999);
        due("43: CALL a penny less", x.byRule(0, 20001, 20000, true), 4);
        onPath(x, "ud");
        due("43: on T TURNED as FACE", x.byRule(0, 0, 0, true), 5);
        x.bond(0, 9999, 100);
        due("43: on T a penny more", x.byRule(0, MILLION, MILLION, true), 6);
        TurnedBonds y = new TurnedBonds();
        y.tree(2, 1000);
        y.move(true, 10, 1);
        onPath(y, "u");
        due("43: turnAt the most, just reached", y.byRule(0, MILLION, MILLION, true), 2);
        onPath(y, "d");
        due("43: turnAt the most", y.byRule(0, MILLION, MILLION, true), 0);
        y.put(0, 0, MILLION);
        due("43: never PUT", y.byRule(0, 0, 0, false), 100000);
        onPath(y, "");
        due("43: never PUT", y.byRule(0, MILLION, MILLION, true), 0);
    }

    private static void runEdges44() {
        TurnedBonds x = doubling(1);
        x.window(0, 1, 1);
        // seed 0 of 2: u d d d d u
        long[] together = {20000, 30000, 40000, 50000, 60000, 80000};
        for (int n = 1; n <= 6; n++) {
            due("44: " + n, x.run(0, 0, n), together[n - 1]);
        }
        due("44: seed 65536 is 0", x.run(0, 65536, 6), 80000);
        due("44: the lowest seed is 0", x.run(0, Integer.MIN_VALUE, 6), 80000);
        due("44: seed -1 is 65535", x.run(0, -1, 6), x.run(0, 65535, 6));
        // d d u u u u
        due("44: seed -1", x.run(0, -1, 6), 100000);
        x.bond(0, 1, 0);
        due("44: a hundred", x.run(0, 5, 100), 100);
        x.put(0, 0, MILLION);
        due("44: a hundred of the most", x.run(0, 5, 100), 100000000);
    }

    private static void extremeEdges45() {
        TurnedBonds x = doubling(1);
        x.window(0, 1, 1);
        due("45: most", x.extreme(0, true, 0), 20000);
        due("45: up", x.extreme(0, true, 1), 1);
        due("45: least", x.extreme(0, false, 0), 10000);
        due("45: down", x.extreme(0, false, 1), 0);
        x.bond(0, 20000, 100);
        due("45: alike: the least number", x.extreme(0, true, 1), 0);
        due("45: alike: the least number", x.extreme(0, false, 1), 0);
        TurnedBonds y = doubling(6);
        y.window(0, 6, 6);
        y.move(true, 1, 2);
        y.move(false, 2, 1);
        due("45: all down", y.extreme(0, true, 1), 0);
        // up halves now: FACE from three ups on, first of all at moves 0 to 2
        due("45: three ups first", y.extreme(0, false, 1), 7);
        y.bond(0, 1, 100);
        due("45: all up", y.extreme(0, false, 1), 63);
        due("45: 156.25", y.extreme(0, false, 0), 156);
        y.move(true, 2, 1);
        y.move(false, 1, 2);
        due("45: six ups", y.extreme(0, true, 1), 63);
    }

    private static void daysEdges46() {
        TurnedBonds x = doubling(6);
        x.window(0, 6, 6);
        due("46: 0 on all ahead of T", x.days(0, 0), 63);
        due("46: 5 on T", x.days(0, 5), 64);
        due("46: 6 on T", x.days(0, 6), 64);
        x.put(0, 5, MILLION - 1);
        due("46: PUT on DAY 5", x.days(0, 1), 32);
        due("46: T is not come to", x.days(0, 5), 0);
        due("46: 0 on five", x.days(0, 0), 31);
        x.put(0, 0, MILLION);
        due("46: at once", x.days(0, 1), 1);
        due("46: never 0", x.days(0, 0), 0);
        x.tree(1, 100);
        x.put(0, 0, -1);
        due("46: T 1", x.days(0, 0), 1);
        due("46: T 1", x.days(0, 5), 2);
    }

    private static void tableEdges47() {
        TurnedBonds x = doubling(6);
        tell(x, 0, "w6-6s0/1/10000");
        int last = x.states(0, 6) - 1;
        due("47: the last, ups", x.table(0, 6, last, 0), 6);
        due("47: the last, marks", x.table(0, 6, last, 1), 7);
        due("47: the last came up", x.table(0, 6, last, 2), 1);
        due("47: the last, VALUE", x.table(0, 6, last, 3), 640000);
        due("47: the last, ACT", x.table(0, 6, last, 4), 6);
        due("47: one more", x.table(0, 6, last + 1, 0), -2);
        due("47: the most", x.table(0, 6, Integer.MAX_VALUE, 0), -2);
        due("47: the first, ups", x.table(0, 6, 0, 0), 0);
        due("47: the first, marks", x.table(0, 6, 0, 1), 0);
        due("47: the first came down", x.table(0, 6, 0, 2), 0);
        due("47: DAY 0, ups", x.table(0, 0, 0, 0), 0);
        due("47: DAY 0, marks of that DAY alone", x.table(0, 0, 0, 1), 1);
        due("47: DAY 0 did not come up", x.table(0, 0, 0, 2), 0);
        due("47: DAY 0, no more", x.table(0, 0, 1, 0), -2);
        due("47: DAY 1 down, marks of two DAYS", x.table(0, 1, 0, 1), 2);
        due("47: DAY 1 up, marks of two DAYS", x.table(0, 1, 1, 1), 3);
        due("47: DAY 1, no more", x.table(0, 1, 2, 0), -2);
        // DAY 3, one up: ddu never has 10000, dud on DAY 2 alone, udd on DAYS 1 and 2
        long[][] oneUp = {{0, 1}, {2, 0}, {6, 0}};
        for (int i = 0; i < 3; i++) {
            due("47: one up, ups", x.table(0, 3, 1 + i, 0), 1);
            due("47: one up, marks", x.table(0, 3, 1 + i, 1), oneUp[i][0]);
            due("47: one up, came up", x.table(0, 3, 1 + i, 2), oneUp[i][1]);
        }
    }

    /** Up is the lower one here, so that more ups may have fewer marks. */
    private static void tableInOrder47() {
        TurnedBonds x = doubling(3);
        x.move(true, 1, 2);
        x.move(false, 2, 1);
        tell(x, 0, "w3-3s0/1/20000");
        // ddd; udd, dud, ddu; uud, udu, duu; uuu
        long[][] wants = {{0, 7, 0}, {1, 1, 0}, {1, 5, 0}, {1, 7, 1}, {2, 0, 0}, {2, 0, 1}, {2, 4, 1}, {3, 0, 1}};
        due("47: eight", x.states(0, 3), 8);
        for (int i = 0; i < 8; i++) {
            for (int what = 0; what < 3; what++) {
                due("47: STATE " + i + ", " + what, x.table(0, 3, i, what), wants[i][what]);
            }
        }
    }

    private static void hedgedEdges48() {
        TurnedBonds x = doubling(1);
        due("48: of an empty PATH it goes on", x.hedged(0), -2);
        x.put(0, 0, 15001);
        due("48: it ENDS at once: 15001 less 15001", x.hedged(0), 0);
        x.put(0, 0, -1);
        // 1000 * 10000 / 15000 = 666 held: 6660 of 15000 spent; 8340 left
        due("48: up: 8340 + 13320 - 20000", onPath(x, "u").hedged(0), 1660);
        due("48: down: 8340 + 3330 - 10000", onPath(x, "d").hedged(0), 1670);
        x.move(true, 1, 1);
        // 10000 and 10000 for 10000 and 5000 pence
        due("48: no shares where VALUES are alike", onPath(x, "u").hedged(0), 0);
        TurnedBonds y = new TurnedBonds();
        y.tree(1, 1);
        y.move(true, 1, 1);
        y.move(false, 19, 20);
        tell(y, 0, "f1n1000w1-1c1:1000");
        // 1000 and 950 turned, COUPON 1000: VALUE 1975; 10000 held for 1000: 975 left, less 1000
        due("48: the COUPON once: -25 + 1000 - 1000", onPath(y, "u").hedged(0), -25);
        due("48: down: -25 + 950 - 950", onPath(y, "d").hedged(0), -25);
        y.rate(200);
        // VALUE 3950000 / 2400 = 1645; 645 left, times 1.2 is 774, less 1000
        due("48: RATE 200", onPath(y, "u").hedged(0), -226);
        tell(y, 0, "c0");
        // VALUE 812; -188 left, times 1.2 is -225.6: cut towards 0
        due("48: below 0, cut towards 0", onPath(y, "u").hedged(0), -225);
    }

    private static void sharesAtMost48() {
        TurnedBonds x = new TurnedBonds();
        x.tree(2, 1);
        x.move(true, 1, 1);
        x.move(false, 19, 20);
        tell(x, 0, "n0f500k1:0s0/1/0");
        // both called at 0: no shares
        due("48: none held", onPath(x, "u").hedged(0), 0);
        x.soft(0, 1, 1, 100);
        // up is called at 0, down is 500: 1000 * -500 / 5 = -100000, VALUE 250: 250 + 10000 - 10000
        due("48: just -100000", onPath(x, "").held(0), -100000);
        due("48: just -100000", onPath(x, "u").hedged(0), 250);
        x.bond(0, 502, 0);
        // -100400 becomes -100000: 251 all the same
        due("48: -100000 at least", onPath(x, "").held(0), -100400);
        due("48: -100000 at least", onPath(x, "u").hedged(0), 251);
        // down: 251 + 10000; there held becomes 0: buys 100000 at 95 pence: 751; paid 502 on T
        due("48: bought back", onPath(x, "dd").hedged(0), 251 + 10000 - 9500 - 502);
        due("48: it goes on", onPath(x, "d").hedged(0), -2);
    }

    private static void letterEdges49() {
        TurnedBonds x = new TurnedBonds();
        String shortest = "f1n0w0-0s0/1/0z0";
        tell(x, 0, shortest);
        due("49: shortest", x.letter(0, -1), 16);
        yes("49: shortest", letters(x, 0).equals(shortest));
        due("49: its last byte", x.letter(0, 15), '0');
        due("49: behind it", x.letter(0, 16), -2);
        tell(x, 0, "f1000000n1000c1000w0-6s3/3/1000000z3");
        StringBuilder longest = new StringBuilder("f1000000n1000");
        for (int t = 1; t <= 6; t++) {
            longest.append("c" + t + ":1000");
        }
        for (int t = 0; t <= 5; t++) {
            x.call(0, t, MILLION);
            longest.append("k" + t + ":1000000");
        }
        for (int t = 0; t <= 5; t++) {
            x.put(0, t, MILLION);
            longest.append("p" + t + ":1000000");
        }
        longest.append("w0-6s3/3/1000000z3");
        due("49: longest", x.letter(0, -1), 193);
        yes("49: longest", letters(x, 0).equals(longest.toString()));
        due("49: its last byte", x.letter(0, 192), '3');
        due("49: behind it", x.letter(0, 193), -2);
        due("49: the other stays", x.letter(1, -1), 22);
        x.call(1, 0, 0);
        x.put(1, 5, 0);
        yes("49: at 0 there is one; no COUPON at 0", letters(x, 1).equals("f10000n100k0:0p5:0w0-6s0/1/0z0"));
    }

    // ---- 50 to 55: several, all

    private static void alikeEdges50() {
        TurnedBonds x = doubling(6);
        x.window(0, 6, 6);
        x.copy(0, 1);
        due("50: alike", x.alike(0, 1, 0), 1);
        due("50: none", x.alike(0, 1, 1), -2);
        x.put(1, 0, MILLION);
        due("50: on DAY 0 alone", x.alike(0, 1, 0), 0);
        due("50: on DAY 0 alone", x.alike(0, 1, 1), 0);
        for (int t = 0; t <= 5; t++) {
            x.put(0, t, MILLION);
            x.put(1, t, MILLION);
        }
        due("50: alike again", x.alike(0, 1, 1), -2);
        x.bond(1, 10001, 100);
        due("50: on T alone", x.alike(0, 1, 1), 6);
        due("50: the other way", x.alike(1, 0, 1), 6);
        for (int k = 0; k < 3; k++) {
            due("50: itself", x.alike(k, k, 0), 1);
            due("50: itself", x.alike(k, k, 1), -2);
        }
        x.tree(1, 100);
        due("50: of T 1", x.alike(0, 1, 1), 1);
        TurnedBonds y = dearest();
        y.bond(0, 10000, 0);
        due("50: by RATIO", y.alike(0, 1, 0), 0);
        y.tree(1, 1);
        due("50: behind T nothing counts", y.alike(0, 1, 0), 1);
    }

    private static void bestEdges51() {
        TurnedBonds x = new TurnedBonds();
        x.tree(1, 1);
        int[][] faces = {{5, 5, 5, 0, 0}, {5, 6, 6, 1, 0}, {6, 6, 5, 0, 2}, {6, 5, 5, 0, 1}, {5, 6, 7, 2, 0},
            {7, 6, 5, 0, 2}, {6, 5, 6, 0, 1}, {5, 6, 5, 1, 0}};
        for (int[] f : faces) {
            for (int k = 0; k < 3; k++) {
                x.bond(k, f[k], 0);
            }
            due("51: most", x.best(true), f[3]);
            due("51: least", x.best(false), f[4]);
        }
        for (int k = 0; k < 3; k++) {
            TurnedBonds y = new TurnedBonds();
            y.call(k, 0, 0);
            due("51: a CALL makes it the least", y.best(false), k);
            due("51: and not the greatest", y.best(true), k == 0 ? 1 : 0);
        }
    }

    private static void bookEdges52() {
        TurnedBonds x = new TurnedBonds();
        x.tree(1, 1);
        x.bond(0, 1, 0);
        x.bond(1, 10, 0);
        x.bond(2, 100, 0);
        due("52: -1 is an answer", x.book(-1, 0, 0), -1);
        due("52: -2 is an answer", x.book(-2, 0, 0), -2);
        due("52: the most", x.book(100, 100, 100), 11100);
        due("52: the least", x.book(-100, -100, -100), -11100);
        due("52: each its own", x.book(1, 2, 3), 321);
        due("52: nothing", x.book(0, 0, 0), 0);
    }

    private static void keptEdges54() {
        TurnedBonds x = new TurnedBonds();
        due("55: none", x.undo(), -1);
        for (int i = 1; i <= 8; i++) {
            x.rate(i);
            x.bond(0, 100 + i, i);
            x.coupon(1, 6, i);
            x.drawn(0, i % 4);
            x.open(0);
            due("54: kept", x.keep(), i);
        }
        x.rate(9);
        x.bond(0, 109, 9);
        due("54: full", x.keep(), -1);
        due("54: 8", x.count(10), 8);
        for (int i = 8; i >= 1; i--) {
            due("55: left", x.undo(), i - 1);
            due("55: RATE", x.count(8), i);
            due("55: FACE", x.told(0, 0), 100 + i);
            due("55: COUPON", x.told(1, 16), i);
            due("55: THE PATH", x.went(0), i % 4);
            due("55: BY HAND", x.byHand(1), 0);
            due("55: count", x.count(10), i - 1);
            x.rate(200);
            x.bond(0, 1, 1);
            x.go(true);
        }
        due("55: none", x.undo(), -1);
        due("55: as it was", x.count(8), 200);
        due("54: again", x.keep(), 1);
        x.rate(0);
        due("55: again", x.undo(), 0);
        due("55: as kept", x.count(8), 200);
    }

    private static void tapeIsNotKept55() {
        TurnedBonds x = new TurnedBonds();
        Check.feed(x, "f5");
        x.keep();
        x.feed(0, 0, 0, 0, 0);
        x.undo();
        due("55: the tape goes on", x.count(9), 40);
        due("55: and has its bytes", x.terms(0, 2), 1);
        x.keep();
        x.open(1);
        x.undo();
        due("55: nothing was opened then", x.byHand(0), -1);
        due("55: nothing was opened then", x.go(true), -1);
        x.open(1);
        x.keep();
        x.does(2);
        due("55: over", x.byHand(0), 0);
        x.undo();
        due("55: not over", x.byHand(0), 1);
        due("55: nothing paid", x.byHand(2), 0);
    }

    private static void lastOfItsCalls() {
        TurnedBonds x = new TurnedBonds();
        for (int i = 1; i <= 511; i++) {
            due("call " + i, x.fairCoupon(0, 11661), 1);
        }
        due("call 512", x.value(0), 11660);
    }

    public static void main(String[] args) {
        objectsShareNothing01();
        fullTape02();
        bytesOfInts02();
        treeEdges03();
        moveEdges04();
        chanceEdges05();
        rateEdges06();
        priceEdges07();
        faceAndRatio08();
        couponEdges09();
        rightsOfDays10();
        windowEdges12();
        softEdges13();
        settlingEdges14();
        boundsOfTexts15();
        placesInTexts15();
        lengthsOfTexts15();
        toldTwice15();
        copyEdges17();
        pathEdges18();
        drawsGoRound19();
        wentEdges20();
        dearestValues21();
        oneCut21();
        hereEdges22();
        tiesOfActs23();
        tiesOfTurned23();
        alongEdges24();
        allBitsOfWithout25();
        leastChances27();
        statesEdges29();
        heldEdges31();
        fairEdges32();
        eachFairOne32();
        fairRateEdges36();
        bestDays34();
        insteadEdges37();
        shiftedEdges38();
        byHandEdges39();
        handOfOtherTree39();
        regretWithoutSign42();
        ruleEdges43();
        runEdges44();
        extremeEdges45();
        daysEdges46();
        tableEdges47();
        tableInOrder47();
        hedgedEdges48();
        sharesAtMost48();
        letterEdges49();
        alikeEdges50();
        bestEdges51();
        bookEdges52();
        keptEdges54();
        tapeIsNotKept55();
        lastOfItsCalls();
        CHECK.close();
    }
}
