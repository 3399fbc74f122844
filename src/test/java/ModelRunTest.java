import java.lang.reflect.Method;
import java.util.ArrayList;
import java.util.Arrays;
import java.util.List;
import java.util.Random;

/** Random runs of calls, each answered by the program and by SlowModel; the answers must be alike. */
public final class ModelRunTest {
    /** Each call with what its arguments stand for, and how often it is drawn. */
    private static final String[] CALLS = {
        "tree days start 3", "move bool factor factor 4", "chance chance chance 3", "rate rate 2",
        "price day day what2 3", "bond k face ratio 4", "coupon k day coupon 6", "call k day pence 8",
        "put k day pence 6", "window k day day 4", "soft k three three pence 6", "settle k three 4",
        "told k told 3", "copy k k 2", "path small 2", "drawn seed day 8", "went went 3", "value k 6",
        "here k what4 8", "act k 6", "along k what2 6", "without k some 4", "right k three 4",
        "ends k act what1 6", "life k what1 4", "states k day 4", "first k day bool 5", "held k 4",
        "fairCoupon k aim 1", "fairRatio k aim 1", "bestCall k pence what1 2", "bestPut k pence what1 2",
        "fairRate k aim 1", "instead k what4 6", "shifted k start chance chance 3", "open k 4", "go bool 12",
        "does what4 4", "byHand what4 8", "byRule k pence pence bool 5", "run k seed hundred 2",
        "extreme k bool what1 3", "days k act 4", "table k day index what4 10", "hedged k 6", "letter k index 4",
        "alike k k what1 4", "best bool 2", "book hundred hundred hundred 2", "count count 3", "keep 2", "undo 2"};

    private final Random random;
    private final Check check;
    /** Whether this run keeps to the least and the most of each number, where sums grow highest. */
    private final boolean atEdges;

    private ModelRunTest(long seed, Check check) {
        random = new Random(seed);
        this.check = check;
        atEdges = random.nextInt(4) == 0;
    }

    private int from(int low, int high) {
        return low + random.nextInt(high - low + 1);
    }

    private int pick(int... numbers) {
        return numbers[random.nextInt(numbers.length)];
    }

    private int wild() {
        return pick(-1, -2, -3, 7, 8, 21, 101, 1001, 1000001, Integer.MIN_VALUE, Integer.MAX_VALUE, random.nextInt());
    }

    private Object argument(String kind) {
        if (kind.equals("bool")) {
            return random.nextBoolean();
        }
        if (kind.equals("aim")) {
            return random.nextInt(8) == 0 ? random.nextLong() : (long) from(0, pick(2000, 12000, 20000, 200000));
        }
        if (random.nextInt(25) == 0) {
            return wild();
        }
        return atEdges ? edge(kind) : number(kind);
    }

    private int edge(String kind) {
        switch (kind) {
            case "days": return pick(1, 6, 6, 6);
            case "start": return pick(1, 1000, 1000);
            case "factor": return pick(1, 19, 20, 20);
            case "chance": return pick(1, 19, 20, 20);
            case "rate": return pick(0, 200);
            case "face": return pick(1, 1000000);
            case "ratio": return pick(0, 1000, 1000);
            case "coupon": return pick(0, 1000);
            case "pence": return pick(-1, 0, 1000000);
            case "hundred": return pick(-100, 1, 100);
            default: return number(kind);
        }
    }

    private int number(String kind) {
        switch (kind) {
            case "days": return from(1, 6);
            case "start": return pick(from(1, 1000), from(80, 120), 1, 1000);
            case "factor": return pick(from(1, 20), from(1, 20), from(5, 7), 1, 20);
            case "chance": return pick(1, 2, 3, from(1, 20));
            case "rate": return pick(0, from(0, 200), from(0, 20));
            case "day": return from(0, 6);
            case "k": return pick(0, 0, 1, 1, 2);
            case "face": return pick(from(1, 1000000), from(8000, 12000), from(8000, 12000));
            case "ratio": return pick(from(0, 1000), from(80, 120), 100);
            case "coupon": return pick(0, from(0, 1000), from(0, 100));
            case "pence": return pick(-1, 0, from(0, 1000000), from(8000, 16000), from(8000, 16000), from(9000, 12000));
            case "three": return from(0, 3);
            case "told": return pick(from(0, 7), from(10, 17), from(19, 26), from(29, 36));
            case "small": return from(0, 1);
            case "seed": return random.nextInt();
            case "went": return pick(0, 1, from(9, 16));
            case "what1": return from(0, 1);
            case "what2": return from(0, 2);
            case "what4": return from(0, 4);
            case "some": return from(0, 16);
            case "act": return from(0, 6);
            case "hundred": return from(-3, 100);
            case "index": return pick(-1, from(0, 5), from(0, 30), from(0, 100));
            case "count": return from(-1, 11);
            default: throw new IllegalStateException(kind);
        }
    }

    private String blanks() {
        return random.nextInt(5) == 0 ? "   ".substring(random.nextInt(3)) : "";
    }

    private String digits(int low, int high) {
        switch (random.nextInt(40)) {
            case 0: return "";
            case 1: return "0000" + from(low, high);
            case 2: return "" + from(0, 9999999);
            case 3: return "" + from(10000000, 99999999);
            default: return "" + from(low, high);
        }
    }

    private String clause() {
        String day = blanks() + (random.nextInt(20) == 0 ? digits(0, 9) : "" + from(1, 5)) + blanks();
        String pence = blanks() + digits(8000, 15000);
        switch (random.nextInt(9)) {
            case 0: return "f" + blanks() + digits(1, 20000);
            case 1: return "n" + blanks() + digits(50, 150);
            case 2: return "c" + blanks() + digits(0, pick(9, 9, 1000));
            case 3: return "c" + day + ":" + blanks() + digits(0, 1000);
            case 4: return "k" + day + ":" + (random.nextInt(4) == 0 ? blanks() + "-" : pence);
            case 5: return "p" + day + ":" + (random.nextInt(4) == 0 ? blanks() + "-" : pence);
            case 6: return "w" + blanks() + from(0, random.nextInt(9) == 0 ? 9 : 3) + blanks() + "-" + blanks()
                    + from(random.nextInt(9) == 0 ? 0 : 3, 6);
            case 7: return "s" + blanks() + from(0, random.nextInt(9) == 0 ? 9 : 1) + blanks() + "/" + blanks()
                    + from(random.nextInt(9) == 0 ? 0 : 1, 3) + blanks() + "/" + pence;
            default: return "z" + blanks() + from(0, random.nextInt(9) == 0 ? 9 : 3);
        }
    }

    private String termsText() {
        StringBuilder text = new StringBuilder(blanks());
        int clauses = from(1, 7);
        for (int i = 0; i < clauses; i++) {
            text.append(clause()).append(blanks());
        }
        if (random.nextInt(6) == 0 && text.length() > 0) {
            text.setCharAt(random.nextInt(text.length()), (char) pick(' ', ':', '-', '/', 'f', 'c', '5', 0, 200, 'x'));
        }
        return text.length() > 100 ? text.substring(0, 100) : text.toString();
    }

    private String movesText(int n) {
        StringBuilder text = new StringBuilder();
        for (int i = 0; i < n; i++) {
            text.append(random.nextInt(30) == 0 ? 'x' : random.nextBoolean() ? 'u' : 'd');
        }
        return text.toString();
    }

    private void feed(TurnedBonds x, SlowModel y, String text) {
        int[] ints = new int[5];
        for (int begin = 0; begin < text.length(); begin += 20) {
            for (int i = 0; i < 20; i++) {
                int sign = begin + i < text.length() ? text.charAt(begin + i) : pick('u', 'd', ' ', 'f');
                ints[i / 4] = ints[i / 4] << 8 | sign;
            }
            check.due("feed", x.feed(ints[0], ints[1], ints[2], ints[3], ints[4]),
                    y.feed(ints[0], ints[1], ints[2], ints[3], ints[4]));
        }
    }

    private void tellTerms(TurnedBonds x, SlowModel y) {
        if (random.nextInt(5) > 0) {
            empty(x, y);
        }
        String text = termsText();
        feed(x, y, text);
        int k = (Integer) argument("k");
        int n = random.nextInt(10) == 0 ? wild() : text.length();
        check.due("terms(" + k + ", " + n + ") of '" + text + "'", x.terms(k, n), y.terms(k, n));
    }

    private void tellPath(TurnedBonds x, SlowModel y) {
        if (random.nextInt(5) > 0) {
            empty(x, y);
        }
        int n = random.nextInt(10) == 0 ? wild() : from(0, y.count(0));
        String text = movesText(Math.max(0, Math.min(n, 6)));
        feed(x, y, text);
        check.due("path(" + n + ") of '" + text + "'", x.path(n), y.path(n));
    }

    /** An empty tape, THE PATH too. */
    private void empty(TurnedBonds x, SlowModel y) {
        check.due("path(0)", x.path(0), y.path(0));
    }

    private static long number(Object answer) {
        if (answer instanceof Boolean) {
            return (Boolean) answer ? 1 : 0;
        }
        return ((Number) answer).longValue();
    }

    private void call(TurnedBonds x, SlowModel y, String[] words) throws ReflectiveOperationException {
        Object[] arguments = new Object[words.length - 2];
        Class<?>[] types = new Class<?>[arguments.length];
        for (int i = 0; i < arguments.length; i++) {
            arguments[i] = argument(words[i + 1]);
            types[i] = arguments[i] instanceof Boolean ? boolean.class
                    : arguments[i] instanceof Long ? long.class : int.class;
        }
        Method real = TurnedBonds.class.getMethod(words[0], types);
        Method slow = SlowModel.class.getDeclaredMethod(words[0], types);
        check.due(words[0] + Arrays.toString(arguments), number(real.invoke(x, arguments)),
                number(slow.invoke(y, arguments)));
    }

    private void compareAll(TurnedBonds x, SlowModel y) {
        for (int what = 0; what <= 10; what++) {
            check.due("count(" + what + ") at the end", x.count(what), y.count(what));
        }
        for (int k = 0; k < 3; k++) {
            for (int what = 0; what <= 36; what++) {
                check.due("told(" + k + ", " + what + ") at the end", x.told(k, what), y.told(k, what));
            }
        }
        for (int what = 0; what <= 16; what++) {
            check.due("went(" + what + ") at the end", x.went(what), y.went(what));
        }
        for (int what = 0; what <= 4; what++) {
            check.due("byHand(" + what + ") at the end", x.byHand(what), y.byHand(what));
        }
    }

    private void run(List<String[]> bag) throws ReflectiveOperationException {
        TurnedBonds x = new TurnedBonds();
        SlowModel y = new SlowModel();
        int calls = from(20, 300);
        for (int i = 0; i < calls; i++) {
            int kind = random.nextInt(30);
            if (kind == 0) {
                tellTerms(x, y);
            } else if (kind == 1) {
                tellPath(x, y);
            } else {
                call(x, y, bag.get(random.nextInt(bag.size())));
            }
        }
        compareAll(x, y);
    }

    public static void main(String[] args) throws ReflectiveOperationException {
        int runs = args.length > 0 ? Integer.parseInt(args[0]) : 300;
        long seed = args.length > 1 ? Long.parseLong(args[1]) : 1;
        List<String[]> bag = new ArrayList<>();
        for (String line : CALLS) {
            String[] words = line.split(" ");
            for (int i = 0; i < Integer.parseInt(words[words.length - 1]); i++) {
                bag.add(words);
            }
        }
        Check check = new Check();
        for (int i = 0; i < runs && check.wrongSoFar() == 0; i++) {
            new ModelRunTest(seed * 1000003 + i, check).run(bag);
            if (check.wrongSoFar() > 0) {
                System.out.println("in run " + i + " of seed " + seed);
            }
        }
        check.close();
    }
}
