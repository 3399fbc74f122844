import java.lang.management.ManagementFactory;
import java.lang.reflect.Constructor;
import java.lang.reflect.Field;
import java.lang.reflect.Method;
import java.lang.reflect.Modifier;
import java.nio.charset.StandardCharsets;
import java.nio.file.Files;
import java.nio.file.Path;
import java.util.Arrays;
import java.util.HashSet;
import java.util.Set;
import java.util.TreeSet;
import java.util.regex.Matcher;
import java.util.regex.Pattern;

/** What can be seen by a program of the rules of LANGUAGE.md, of the face, and of the room that a run may take. */
public final class RulesTest {
    private static final Check CHECK = new Check();
    private static final String FACE = "int feed(int,int,int,int,int)|boolean tree(int,int)|boolean move(boolean,int,int)"
            + "|boolean chance(int,int)|int rate(int)|long price(int,int,int)|boolean bond(int,int,int)"
            + "|int coupon(int,int,int)|int call(int,int,int)|int put(int,int,int)|boolean window(int,int,int)"
            + "|boolean soft(int,int,int,int)|int settle(int,int)|int terms(int,int)|int told(int,int)"
            + "|boolean copy(int,int)|int path(int)|int drawn(int,int)|int went(int)|long value(int)|long here(int,int)"
            + "|int act(int)|long along(int,int)|long without(int,int)|long right(int,int)|long ends(int,int,int)"
            + "|long life(int,int)|int states(int,int)|int first(int,int,boolean)|long held(int)"
            + "|int fairCoupon(int,long)|int fairRatio(int,long)|long bestCall(int,int,int)|long bestPut(int,int,int)"
            + "|int fairRate(int,long)|long instead(int,int)|long shifted(int,int,int,int)|long open(int)"
            + "|int go(boolean)|long does(int)|long byHand(int)|long byRule(int,int,int,boolean)|long run(int,int,int)"
            + "|long extreme(int,boolean,int)|int days(int,int)|long table(int,int,int,int)|long hedged(int)"
            + "|int letter(int,int)|int alike(int,int,int)|int best(boolean)|long book(int,int,int)|int count(int)"
            + "|int keep()|int undo()";

    private static void faceIsTheDocuments() {
        Set<String> wanted = new TreeSet<>(Arrays.asList(FACE.split("\\|")));
        Set<String> found = new TreeSet<>();
        Set<String> names = new HashSet<>();
        for (Method m : TurnedBonds.class.getDeclaredMethods()) {
            if (Modifier.isPrivate(m.getModifiers())) {
                continue;
            }
            CHECK.holds(m + " is public", Modifier.isPublic(m.getModifiers()));
            String types = Arrays.toString(m.getParameterTypes()).replaceAll("[\\[\\] ]", "");
            found.add(m.getReturnType() + " " + m.getName() + "(" + types + ")");
            names.add(m.getName());
        }
        CHECK.holds("the methods of the face: " + found, found.equals(wanted));
        for (Field f : TurnedBonds.class.getDeclaredFields()) {
            CHECK.holds(f + " is NONE or private", f.getName().equals("NONE") || Modifier.isPrivate(f.getModifiers()));
        }
        Constructor<?>[] made = TurnedBonds.class.getDeclaredConstructors();
        CHECK.holds("one constructor", made.length == 1 && Modifier.isPublic(made[0].getModifiers())
                && made[0].getParameterCount() == 0);
        CHECK.holds("public and final", Modifier.isPublic(TurnedBonds.class.getModifiers())
                && Modifier.isFinal(TurnedBonds.class.getModifiers()));
        noOtherBearsTheirNames(names);
    }

    private static void noOtherBearsTheirNames(Set<String> names) {
        for (Method m : TurnedBonds.class.getDeclaredMethods()) {
            CHECK.holds(m + " bears its own name", Modifier.isPublic(m.getModifiers()) || !names.contains(m.getName()));
        }
        Class<?>[] inside = TurnedBonds.class.getDeclaredClasses();
        CHECK.holds("at most some twelve classes", inside.length <= 11);
        for (Class<?> c : inside) {
            CHECK.holds(c + " is static", Modifier.isStatic(c.getModifiers()));
            for (Method m : c.getDeclaredMethods()) {
                CHECK.holds(m + " bears its own name", !names.contains(m.getName()));
                CHECK.holds(m + " has seven parameters at most", m.getParameterCount() <= 7);
            }
            for (Field f : c.getDeclaredFields()) {
                CHECK.holds(f + " is final if static", !Modifier.isStatic(f.getModifiers())
                        || Modifier.isFinal(f.getModifiers()));
            }
        }
    }

    private static void wordsKeepToTheRules() throws java.io.IOException {
        String source = Files.readString(Path.of("src/main/java/TurnedBonds.java"), StandardCharsets.UTF_8);
        CHECK.holds("plain signs alone", source.chars().allMatch(c -> c == '\n' || c >= 32 && c < 127));
        String code = source.replaceAll("(?s)/\\*.*?\\*/", " ").replaceAll("//[^\n]*", " ")
                .replaceAll("'(\\\\.|[^'\\\\])'", "0").replaceAll("\"(\\\\.|[^\"\\\\])*\"", "0");
        String[] words = {"throw", "throws", "try", "catch", "finally", "synchronized", "assert", "protected", "package",
            "yield", "var", "volatile", "native", "transient", "strictfp", "Object", "Exception", "Thread", "Random",
            "Class", "Record", "super", "double", "float", "import"};
        for (String word : words) {
            CHECK.holds("no " + word, !Pattern.compile("\\b" + word + "\\b").matcher(code).find());
        }
        CHECK.holds("no lambda", !code.contains("->"));
        CHECK.holds("no method reference", !code.contains("::"));
        CHECK.holds("no static block", !Pattern.compile("static\\s*\\{").matcher(code).find());
        CHECK.holds("no mark with @", !code.contains("@"));
        Matcher call = Pattern.compile("\\b(System|Math|Integer|Long|Arrays|List)\\.(\\w+)").matcher(code);
        Set<String> known = Set.of("System.arraycopy", "Math.min", "Math.max", "Math.abs", "Integer.bitCount",
                "Long.MIN_VALUE");
        while (call.find()) {
            CHECK.holds(call.group() + " is in the library of the rules", known.contains(call.group()));
        }
        methodsAreShort(code);
    }

    private static void methodsAreShort(String code) {
        String[] lines = code.split("\n");
        int begin = 0;
        for (int i = 0; i < lines.length; i++) {
            if (lines[i].matches("( {4}| {8})[a-z].*\\) \\{")) {
                begin = i;
            }
            if (lines[i].matches("( {4}| {8})\\}")) {
                CHECK.holds("some sixty lines at most: " + lines[begin], i - begin <= 60
                        || lines[begin].contains("class"));
                begin = i;
            }
        }
    }

    private static long bytesMade() {
        return ((com.sun.management.ThreadMXBean) ManagementFactory.getThreadMXBean())
                .getThreadAllocatedBytes(Thread.currentThread().getId());
    }

    /** The room holds 7.3 million elements for all calls of a run; one object's 512 calls must take little of it. */
    private static void roomIsSmall() {
        dearCalls();
        long before = bytesMade();
        dearCalls();
        long made = bytesMade() - before;
        CHECK.holds("512 dear calls made " + made + " bytes", made < 100000);
    }

    private static void dearCalls() {
        TurnedBonds x = new TurnedBonds();
        x.tree(6, 1000);
        long sum = 0;
        for (int i = 0; i < 26; i++) {
            sum += x.fairCoupon(0, i) + x.fairRatio(0, i) + x.fairRate(0, i) + x.bestCall(0, i, 1) + x.bestPut(0, i, 1);
            sum += x.run(0, i, 100) + x.extreme(0, true, 0) + x.table(0, 6, i, 3) + x.letter(0, i) + x.alike(0, 1, 0);
            sum += x.best(true) + x.book(1, 2, 3) + x.keep() + x.open(0) + x.go(true) + x.byHand(4) + x.hedged(0);
            sum += x.ends(0, 6, 0) + x.life(0, 0);
        }
        CHECK.holds("they answer", sum != 0);
    }

    public static void main(String[] args) throws java.io.IOException {
        faceIsTheDocuments();
        wordsKeepToTheRules();
        roomIsSmall();
        CHECK.close();
    }
}
