import java.lang.reflect.Method;
import java.util.ArrayList;
import java.util.Arrays;
import java.util.List;
import java.util.function.Consumer;
import java.util.function.ToLongFunction;

/**
 * The bounds of all arguments, one number below and one above each of them, and the ends of int; that a call which is
 * refused changes nothing but the tape, where the document says so; and which of several reasons is told.
 */
public final class RefusalTest {
    private static final long NO_LONG = Long.MIN_VALUE;
    private static final Check CHECK = new Check();

    /**
     * Name, answer when refused, then for each argument "least..most@a right one", or a right one alone if all are.
     * They hold in the state that prepare() makes: T is 4, THE PATH has two moves, the tape 40 bytes.
     */
    private static final String[] BOUNDS = {
        "tree false 1..6@3 1..1000@100",
        "move false true 1..20@3 1..20@3",
        "move false false 1..20@3 1..20@3",
        "chance false 1..4@3 4..20@5",
        "chance false 1..19@1 2..20@20",
        "rate -1 0..200@7",
        "price -1 0..4@4 0..4@0 0..2@1",
        "price -1 2..4@4 0..4@2 0..2@0",
        "bond false 0..2@1 1..1000000@5 0..1000@5",
        "coupon -1 0..2@1 1..6@2 0..1000@5",
        "call -1 0..2@1 0..5@2 -1..1000000@5",
        "put -1 0..2@1 0..5@2 -1..1000000@5",
        "window false 0..2@1 0..4@2 2..6@4",
        "window false 0..2@1 0..6@0 0..6@6",
        "soft false 0..2@1 0..2@1 1..3@2 0..1000000@5",
        "soft false 0..2@1 0..3@3 3..3@3 0..1000000@5",
        "soft false 0..2@1 0..1@0 1..3@1 0..1000000@5",
        "settle -1 0..2@1 0..3@2",
        "terms -1 0..2@1 1..40@7",
        "told -1 0..2@1 0..7@3",
        "told -1 0..2@1 11..16@13",
        "told -1 0..2@1 20..25@23",
        "told -1 0..2@1 30..35@33",
        "copy false 0..1@0 1..2@2",
        "copy false 1..2@2 0..1@0",
        "path -1 0..4@0",
        "drawn -1 5 0..4@2",
        "went -1 0..1@0",
        "went -1 10..11@11",
        "value -1 0..2@1",
        "here -1 0..2@1 0..4@3",
        "act -1 0..2@1",
        "along -1 0..2@1 0..2@1",
        "without -1 0..2@1 0..15@3",
        "right min 0..2@1 0..3@2",
        "ends -1 0..2@1 1..6@2 0..1@0",
        "life -1 0..2@1 0..1@1",
        "states -1 0..2@1 0..4@2",
        "first -1 0..2@1 0..4@2 true",
        "first -1 0..2@1 0..4@2 false",
        "held min 0..2@1",
        "fairCoupon -1 0..2@1 9000L",
        "fairRatio -1 0..2@1 9000L",
        "bestCall -1 0..2@1 0..1000000@500 0..1@0",
        "bestPut -1 0..2@1 0..1000000@500 0..1@1",
        "fairRate -1 0..2@1 9000L",
        "instead -1 0..2@1 0..3@2",
        "shifted -1 0..2@1 1..1000@50 1..4@1 2..20@5",
        "shifted -1 0..2@1 1..1000@50 1..19@1 2..20@20",
        "open -1 0..2@1",
        "does -1 0..3@2",
        "byHand -1 0..4@2",
        "byRule -1 0..2@1 0..1000000@9000 0..1000000@9000 false",
        "byRule -1 0..2@1 0..1000000@9000 0..1000000@9000 true",
        "run -1 0..2@1 5 1..100@3",
        "extreme -1 0..2@1 true 0..1@0",
        "extreme -1 0..2@1 false 0..1@0",
        "days -1 0..2@1 0..6@2",
        "table -1 0..2@1 0..4@1 0..2147483647@0 0..4@3",
        "hedged min 0..2@1",
        "letter -1 0..2@1 -1..2147483647@4",
        "alike -1 0..2@1 0..2@2 0..1@0",
        "book min -100..100@3 -100..100@3 -100..100@3",
        "count -1 0..10@3"};

    private static void due(String what, long got, long want) {
        CHECK.due(what, got, want);
    }

    /** A state in which much is not as at first: two states are kept, BY HAND goes on, the tape has 40 bytes. */
    private static void prepare(TurnedBonds x) {
        prepareNoTape(x);
        Check.feed(x, "f77n88c5k0:9p3:-w1-z2                   ");
    }

    private static void prepareNoTape(TurnedBonds x) {
        x.coupon(2, 6, 61);
        x.keep();
        x.tree(4, 90);
        x.move(true, 11, 10);
        x.move(false, 9, 10);
        x.chance(3, 5);
        x.rate(10);
        x.bond(0, 9500, 110);
        x.coupon(0, 3, 40);
        x.call(0, 2, 9900);
        x.put(0, 1, 9300);
        x.window(0, 1, 4);
        x.soft(0, 1, 2, 9200);
        x.settle(0, 1);
        x.bond(1, 9800, 90);
        x.call(1, 1, 9990);
        x.put(1, 2, 9700);
        x.open(1);
        x.keep();
        x.go(true);
        x.rate(20);
        x.coupon(1, 2, 33);
        Check.feed(x, "ud");
        x.path(2);
    }

    private static void look(TurnedBonds x, List<Long> seen) {
        for (int what = 0; what <= 10; what++) {
            seen.add((long) x.count(what));
        }
        for (int k = 0; k < 3; k++) {
            for (int what = 0; what <= 35; what++) {
                if (what <= 7 || what >= 11 && what <= 16 || what >= 20 && what <= 25 || what >= 30) {
                    seen.add((long) x.told(k, what));
                }
            }
        }
        seen.add((long) x.went(0));
        for (int i = 0; i < 6; i++) {
            seen.add((long) x.went(10 + i));
        }
        for (int what = 0; what <= 4; what++) {
            seen.add(x.byHand(what));
        }
    }

    /** What can be seen of an object, in fewer calls than its 512: it is spent then. */
    private static List<Long> print(TurnedBonds x) {
        List<Long> seen = new ArrayList<>();
        look(x, seen);
        // of the tape, by the TERMS that it tells
        seen.add((long) x.terms(2, 15));
        for (int what : new int[] {0, 1, 11, 20, 33}) {
            seen.add((long) x.told(2, what));
        }
        // of what BY HAND remembers, by playing on
        for (int i = 0; i < 4; i++) {
            seen.add((long) x.go(i % 2 == 0));
            seen.add(x.byHand(3));
        }
        seen.add(x.does(2));
        for (int left = x.undo(), i = 0; left >= 0 && i < 2; left = x.undo(), i++) {
            look(x, seen);
        }
        return seen;
    }

    private static void changesNothing(String name, Consumer<TurnedBonds> make, ToLongFunction<TurnedBonds> call,
            long want) {
        becomes(name, make, call, want, make);
    }

    private static void becomes(String name, Consumer<TurnedBonds> make, ToLongFunction<TurnedBonds> call, long want,
            Consumer<TurnedBonds> then) {
        TurnedBonds x = new TurnedBonds();
        make.accept(x);
        due(name, call.applyAsLong(x), want);
        TurnedBonds twin = new TurnedBonds();
        then.accept(twin);
        CHECK.holds(name + " changes nothing", print(x).equals(print(twin)));
    }

    // ---- all bounds

    private static Object rightOne(String word) {
        if (word.equals("true") || word.equals("false")) {
            return word.equals("true");
        }
        if (word.endsWith("L")) {
            return Long.parseLong(word.substring(0, word.length() - 1));
        }
        return Integer.parseInt(word.substring(word.indexOf('@') + 1));
    }

    private static long call(TurnedBonds x, String name, Object[] arguments) {
        Class<?>[] types = new Class<?>[arguments.length];
        for (int i = 0; i < arguments.length; i++) {
            types[i] = arguments[i] instanceof Boolean ? boolean.class
                    : arguments[i] instanceof Long ? long.class : int.class;
        }
        try {
            Method method = TurnedBonds.class.getMethod(name, types);
            Object answer = method.invoke(x, arguments);
            return answer instanceof Boolean ? ((Boolean) answer ? 1 : 0) : ((Number) answer).longValue();
        } catch (ReflectiveOperationException e) {
            throw new IllegalStateException(name + Arrays.toString(arguments), e);
        }
    }

    private static void allBounds() {
        for (String line : BOUNDS) {
            String[] words = line.split(" ");
            long refused = words[1].equals("min") ? NO_LONG : words[1].equals("false") ? 0 : -1;
            Object[] right = new Object[words.length - 2];
            for (int i = 0; i < right.length; i++) {
                right[i] = rightOne(words[i + 2]);
            }
            for (int i = 0; i < right.length; i++) {
                if (words[i + 2].contains("..")) {
                    boundsOf(words[0], refused, right, i, words[i + 2]);
                }
            }
        }
    }

    private static void boundsOf(String name, long refused, Object[] right, int i, String word) {
        int least = Integer.parseInt(word.substring(0, word.indexOf("..")));
        int most = Integer.parseInt(word.substring(word.indexOf("..") + 2, word.indexOf('@')));
        for (int number : new int[] {least, most}) {
            Object[] arguments = right.clone();
            arguments[i] = number;
            TurnedBonds x = new TurnedBonds();
            prepare(x);
            CHECK.holds(name + Arrays.toString(arguments) + " is not refused", call(x, name, arguments) != refused);
        }
        List<Integer> wrong = new ArrayList<>(List.of(least - 1, Integer.MIN_VALUE));
        if (most < Integer.MAX_VALUE) {
            wrong.addAll(List.of(most + 1, Integer.MAX_VALUE));
        }
        for (int number : wrong) {
            Object[] arguments = right.clone();
            arguments[i] = number;
            changesNothing(name + Arrays.toString(arguments), RefusalTest::prepare, x -> call(x, name, arguments),
                    refused);
        }
    }

    // ---- refused in other ways

    private static void gaps() {
        int[] toldGaps = {8, 9, 10, 17, 18, 19, 26, 27, 28, 29, 36, 40};
        for (int what : toldGaps) {
            changesNothing("told(1, " + what + ")", RefusalTest::prepare, x -> x.told(1, what), -1);
        }
        for (int what = 2; what <= 20; what++) {
            int number = what;
            if (what < 10 || what > 11) {
                changesNothing("went(" + what + ")", RefusalTest::prepare, x -> x.went(number), -1);
            }
        }
        for (int k = 0; k < 3; k++) {
            int same = k;
            changesNothing("copy of itself", RefusalTest::prepare, x -> x.copy(same, same) ? 1 : 0, 0);
        }
        changesNothing("no up beyond the DAY", RefusalTest::prepare, x -> x.price(2, 3, 0), -1);
        changesNothing("p as much as q", RefusalTest::prepare, x -> x.chance(5, 5) ? 1 : 0, 0);
        changesNothing("shifted, p as much as q", RefusalTest::prepare, x -> x.shifted(0, 1, 5, 5), -1);
        changesNothing("q 1", RefusalTest::prepare, x -> x.chance(1, 1) ? 1 : 0, 0);
        changesNothing("p 0 of q 1", RefusalTest::prepare, x -> x.chance(0, 1) ? 1 : 0, 0);
        changesNothing("all below 0", RefusalTest::prepare, x -> x.chance(-2, -1) ? 1 : 0, 0);
        changesNothing("x behind y", RefusalTest::prepare, x -> x.window(0, 5, 4) ? 1 : 0, 0);
        changesNothing("x and y too high", RefusalTest::prepare, x -> x.window(0, 7, 7) ? 1 : 0, 0);
        changesNothing("m above w", RefusalTest::prepare, x -> x.soft(0, 3, 2, 0) ? 1 : 0, 0);
        changesNothing("m and w 0", RefusalTest::prepare, x -> x.soft(0, 0, 0, 0) ? 1 : 0, 0);
        changesNothing("m and w 4", RefusalTest::prepare, x -> x.soft(0, 4, 4, 0) ? 1 : 0, 0);
        changesNothing("CALL at -2", RefusalTest::prepare, x -> x.call(0, 2, -2), -1);
        changesNothing("PUT at -2", RefusalTest::prepare, x -> x.put(0, 1, -2), -1);
        changesNothing("move 0 through 0", RefusalTest::prepare, x -> x.move(true, 0, 0) ? 1 : 0, 0);
    }

    private static void prepareFull(TurnedBonds x) {
        prepareNoTape(x);
        for (int i = 0; i < 10; i++) {
            x.feed(0x66313220, 0x6e352020, 0x20202020, 0x20202020, 0x20202020);
        }
        for (int i = 0; i < 6; i++) {
            x.rate(30 + i);
            x.keep();
        }
    }

    private static void fullAndEmpty() {
        changesNothing("feed behind 200", RefusalTest::prepareFull, x -> x.feed(1, 2, 3, 4, 5), -1);
        changesNothing("keep behind 8", RefusalTest::prepareFull, x -> x.keep(), -1);
        changesNothing("undo of none", x -> x.rate(9), x -> x.undo(), -1);
        changesNothing("go of none", x -> x.rate(9), x -> x.go(true), -1);
        changesNothing("byHand of none", x -> x.rate(9), x -> x.byHand(0), -1);
        for (int act = -1; act <= 4; act++) {
            int number = act;
            changesNothing("does of none", x -> x.rate(9), x -> x.does(number), -1);
        }
        changesNothing("terms of an empty tape", RefusalTest::prepareNoTape, x -> x.terms(0, 1), -1);
        changesNothing("path of an empty tape", RefusalTest::prepareNoTape, x -> x.path(1), -1);
        changesNothing("terms beyond the tape", RefusalTest::prepare, x -> x.terms(0, 41), -1);
        changesNothing("terms beyond 100", RefusalTest::prepareFull, x -> x.terms(0, 101), -1);
        changesNothing("terms of 200", RefusalTest::prepareFull, x -> x.terms(0, 200), -1);
    }

    /** Where the tape is empty then, and nothing else has changed. */
    private static void onlyTheTape() {
        String[] wrongTexts = {"f1000001            ", "f5n6k0:7x           ", "c12345678           ", "w5-4 "};
        for (String text : wrongTexts) {
            becomes("FAULT", x -> feedAfter(x, text), x -> x.terms(0, 20) < -999 ? -7 : 0, -7,
                    RefusalTest::prepareNoTape);
        }
        for (String text : new String[] {"x", "ux", "uux", "uuux", "U", " u", "u d", "\0", "\u00f5", "u\u00e4"}) {
            becomes("other bytes", x -> feedAfter(x, text), x -> x.path(text.length()), -2,
                    RefusalTest::prepareNoTape);
        }
    }

    private static void feedAfter(TurnedBonds x, String text) {
        prepareNoTape(x);
        Check.feed(x, text);
    }

    private static void prepareOver(TurnedBonds x) {
        prepare(x);
        x.does(2);
    }

    private static void prepareOnLastDay(TurnedBonds x) {
        prepare(x);
        x.window(1, 0, 3);
        x.put(1, 4, 9);
        x.call(1, 4, 9);
        x.open(1);
        for (int i = 0; i < 4; i++) {
            x.go(false);
        }
    }

    private static void byHandRefusals() {
        changesNothing("go when over", RefusalTest::prepareOver, x -> x.go(true), -2);
        changesNothing("go on T", RefusalTest::prepareOnLastDay, x -> x.go(true), -2);
        changesNothing("0 ahead of T", RefusalTest::prepare, x -> x.does(0), -2);
        for (int act = 0; act <= 3; act++) {
            int number = act;
            changesNothing("does when over", RefusalTest::prepareOver, x -> x.does(number), -2);
        }
        changesNothing("no PUT there", RefusalTest::prepare, x -> x.does(1), -3);
        for (int act = 1; act <= 3; act++) {
            int number = act;
            changesNothing("nothing but 0 can be on T", RefusalTest::prepareOnLastDay, x -> x.does(number), -3);
        }
        changesNothing("does 4 when over", RefusalTest::prepareOver, x -> x.does(4), -1);
        changesNothing("does -1 on T", RefusalTest::prepareOnLastDay, x -> x.does(-1), -1);
        changesNothing("open of none", RefusalTest::prepareOver, x -> x.open(3), -1);
    }

    /** Calls that only tell change nothing either. */
    private static void tellingChangesNothing() {
        changesNothing("value", RefusalTest::prepare, x -> x.value(2) > 0 ? 1 : 0, 1);
        changesNothing("without", RefusalTest::prepare, x -> x.without(1, 15) > 0 ? 1 : 0, 1);
        changesNothing("fairCoupon", RefusalTest::prepare, x -> x.fairCoupon(1, Long.MAX_VALUE), -2);
        changesNothing("fairRatio", RefusalTest::prepare, x -> x.fairRatio(1, Long.MAX_VALUE), -2);
        changesNothing("fairRate", RefusalTest::prepare, x -> x.fairRate(1, Long.MIN_VALUE), -2);
        changesNothing("bestCall", RefusalTest::prepare, x -> x.bestCall(1, 0, 1) > 0 ? 1 : 0, 1);
        changesNothing("bestPut", RefusalTest::prepare, x -> x.bestPut(1, 1000000, 1), 1000000);
        changesNothing("shifted", RefusalTest::prepare, x -> x.shifted(1, 1000, 1, 20) > 0 ? 1 : 0, 1);
        changesNothing("byRule", RefusalTest::prepare, x -> x.byRule(1, 0, 0, false), 8100);
        changesNothing("run", RefusalTest::prepare, x -> x.run(1, 3, 100) > 0 ? 1 : 0, 1);
        changesNothing("extreme", RefusalTest::prepare, x -> x.extreme(1, true, 0) > 0 ? 1 : 0, 1);
        changesNothing("table", RefusalTest::prepare, x -> x.table(1, 0, 0, 0), 0);
        changesNothing("letter", RefusalTest::prepare, x -> x.letter(1, 0), 'f');
        changesNothing("alike", RefusalTest::prepare, x -> x.alike(0, 1, 0), 0);
        changesNothing("best", RefusalTest::prepare, x -> x.best(true) >= 0 ? 1 : 0, 1);
        changesNothing("book", RefusalTest::prepare, x -> x.book(0, 0, 0), 0);
        changesNothing("hedged", RefusalTest::prepare, x -> x.hedged(1) != NO_LONG ? 1 : 0, 1);
        changesNothing("instead", RefusalTest::prepare, x -> x.instead(1, 3), -2);
    }

    // ---- of several reasons

    private static void noneComesFirst() {
        TurnedBonds x = new TurnedBonds();
        Check.feed(x, "xxxxxxx");
        due("path: no such n, other bytes", x.path(4), -1);
        due("path: other bytes", x.path(3), -2);
        Check.feed(x, "uuu");
        x.path(3);
        x.move(true, 5, 6);
        due("here on T", x.here(0, 0), -2);
        due("here on T, no BOND", x.here(3, 0), -1);
        due("here on T, no such what", x.here(0, 5), -1);
        due("held on T ahead of alike", x.held(0), -2);
        due("held on T, no BOND", x.held(3), NO_LONG);
        due("instead of PUT on T", x.instead(0, 1), -2);
        due("instead of PUT on T, no BOND", x.instead(-1, 1), -1);
        x.path(0);
        due("held, alike", x.held(0), -3);
        due("held, alike, no BOND", x.held(-1), NO_LONG);
        for (int what = 0; what < 3; what++) {
            due("along goes on", x.along(0, what), -2);
            due("along goes on, no BOND", x.along(3, what), -1);
        }
        due("along goes on, no such what", x.along(0, 3), -1);
        due("hedged goes on", x.hedged(0), -2);
        due("hedged goes on, no BOND", x.hedged(3), NO_LONG);
        due("first: none", x.first(0, 1, true), -2);
        due("first: none, no BOND", x.first(3, 1, true), -1);
        due("first: none, no DAY", x.first(0, 4, true), -1);
        due("fairCoupon: none", x.fairCoupon(2, Long.MAX_VALUE), -2);
        due("fairCoupon: none, no BOND", x.fairCoupon(3, Long.MAX_VALUE), -1);
        due("fairRatio: none", x.fairRatio(2, Long.MAX_VALUE), -2);
        due("fairRatio: none, no BOND", x.fairRatio(3, Long.MAX_VALUE), -1);
        due("fairRate: none", x.fairRate(2, Long.MIN_VALUE), -2);
        due("fairRate: none, no BOND", x.fairRate(3, Long.MIN_VALUE), -1);
        due("table: not so many", x.table(0, 1, 2, 0), -2);
        due("table: not so many, no BOND", x.table(3, 1, 2, 0), -1);
        due("table: not so many, no DAY", x.table(0, 4, 99, 0), -1);
        due("table: not so many, no such what", x.table(0, 1, 2, 5), -1);
        due("letter: not so many", x.letter(0, 22), -2);
        due("letter: not so many, no BOND", x.letter(3, 22), -1);
        due("alike: no DAY", x.alike(0, 1, 1), -2);
        due("alike: no DAY, no BOND", x.alike(0, 3, 1), -1);
    }

    private static void byHandReasons() {
        TurnedBonds x = new TurnedBonds();
        due("does: nothing opened, no such one", x.does(4), -1);
        x.window(0, 2, 2);
        x.open(0);
        due("does 0 ahead of T", x.does(0), -2);
        due("does 2 that can't be", x.does(2), -3);
        due("does no such one", x.does(4), -1);
        x.go(true);
        x.go(true);
        due("does 2", x.does(2), 14400);
        due("over ahead of can't be", x.does(1), -2);
        due("no such one ahead of over", x.does(4), -1);
        due("go: over", x.go(false), -2);
    }

    public static void main(String[] args) {
        allBounds();
        gaps();
        fullAndEmpty();
        onlyTheTape();
        byHandRefusals();
        tellingChangesNothing();
        noneComesFirst();
        byHandReasons();
        CHECK.close();
    }
}
