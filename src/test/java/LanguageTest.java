import java.lang.management.ManagementFactory;
import java.lang.reflect.Constructor;
import java.lang.reflect.Field;
import java.lang.reflect.Member;
import java.lang.reflect.Method;
import java.lang.reflect.Modifier;
import java.nio.file.Files;
import java.nio.file.Path;
import java.util.ArrayList;
import java.util.Arrays;
import java.util.List;
import java.util.Map;
import java.util.Set;
import java.util.TreeMap;
import java.util.TreeSet;
import java.util.regex.Matcher;
import java.util.regex.Pattern;

/** What can be seen of LANGUAGE.md's rules: the face, the shape of the classes, words that mustn't be there, what calls make. */
public final class LanguageTest {
    private static final String FACE = "int feed(int,int,int,int,int) int stair(int) int fault(int) int person(int,int) int step(int,int) int stands() int crack(int) "
        + "int spare() int see(int) int bring(int,int) int move(int,int) int prop(int) int days(int) int undo(int) int judge(int,int) int perform(int) "
        + "int year(int,int) int holds(int) int fewest(int) int holdings() int needed() int most(int) int served(int) int instead(int) int swap(int) "
        + "int props(int) int mends(int) int sinks() int stay(int) int builds(int,int) int bound(int,int,int) int trial(int,int) int wins() int best() "
        + "int lasts() int share(int,int) int pillar() long chance(int) int where(int) int numbers(int,int,int) long write(int,int,long) int lists(int) "
        + "int image(int) int restore(int) int count(int)";
    private static int wrong = 0;

    private static void must(boolean holds, String what) {
        if (!holds) {
            wrong++;
            System.out.println("not so: " + what);
        }
    }

    public static void main(String[] args) throws Exception {
        face();
        classes();
        source(Files.readString(Path.of("src/main/java/LeanStair.java")));
        depth(Files.readString(Path.of("src/main/java/LeanStair.java")));
        room();
        System.out.println(wrong == 0 ? "the language is kept to" : wrong + " things are not so");
        if (wrong != 0) System.exit(1);
    }

    private static void face() {
        Class<?> c = LeanStair.class;
        must(Modifier.isFinal(c.getModifiers()) && Modifier.isPublic(c.getModifiers()), "public and final");
        Set<String> got = new TreeSet<>();
        for (Method m : c.getDeclaredMethods()) {
            if (m.isSynthetic()) continue;
            if (Modifier.isPublic(m.getModifiers())) {
                String types = String.join(",", Arrays.stream(m.getParameterTypes()).map(Class::getName).toList());
                got.add(m.getReturnType().getName() + " " + m.getName() + "(" + types + ")");
            } else {
                must(Modifier.isPrivate(m.getModifiers()), "private: " + m);
            }
        }
        Set<String> want = new TreeSet<>(Arrays.asList(FACE.split("(?<=\\)) ")));
        must(got.equals(want), "the face: " + got);
        for (Field f : c.getDeclaredFields()) {
            boolean constant = f.getName().equals("NONE");
            must(constant == Modifier.isPublic(f.getModifiers()) && (constant || Modifier.isPrivate(f.getModifiers())), "private: " + f);
        }
        Constructor<?>[] made = c.getDeclaredConstructors();
        must(made.length == 1 && made[0].getParameterCount() == 0 && Modifier.isPublic(made[0].getModifiers()), "one constructor");
        must(LeanStair.NONE == -1, "NONE");
    }

    private static void classes() {
        Set<String> open = new TreeSet<>();
        for (Method m : LeanStair.class.getDeclaredMethods()) if (Modifier.isPublic(m.getModifiers())) open.add(m.getName());
        List<Class<?>> all = new ArrayList<>(Arrays.asList(LeanStair.class.getDeclaredClasses()));
        must(all.size() + 1 <= 12, "at most twelve classes");
        for (Class<?> c : all) {
            must(Modifier.isStatic(c.getModifiers()) && !Modifier.isPublic(c.getModifiers()) && !Modifier.isProtected(c.getModifiers()), "static and not open: " + c);
            must(c.getDeclaredClasses().length == 0, "no classes inside: " + c);
        }
        all.add(LeanStair.class);
        for (Class<?> c : all) {
            int fields = 0;
            for (Field f : c.getDeclaredFields()) {
                if (Modifier.isStatic(f.getModifiers())) must(Modifier.isFinal(f.getModifiers()) && !f.getType().isArray(), "a constant: " + f);
                else fields++;
            }
            must(fields <= 20, "twenty fields: " + c + " has " + fields);
            for (Method m : c.getDeclaredMethods()) {
                must(m.getParameterCount() <= 7, "seven parameters: " + m);
                must(Modifier.isPublic(m.getModifiers()) || !open.contains(m.getName()), "no public one's name: " + m);
            }
        }
    }

    private static void source(String text) {
        String bare = text.replaceAll("(?s)/\\*.*?\\*/", " ").replaceAll("//[^\n]*", " ").replaceAll("\"[^\"\n]*\"", "\"\"");
        for (String word : "throw throws try catch finally synchronized assert import package instanceof volatile transient native var yield goto Object Exception System Arrays".split(" "))
            must(!Pattern.compile("\\b" + word + "\\b").matcher(bare).find(), "no " + word);
        must(!bare.contains("->") && !bare.contains("::"), "no lambda, no method reference");
        must(text.chars().allMatch(ch -> ch == 10 || ch >= 32 && ch < 127), "plain signs alone");
        String[] allowed = {"Math.max", "Math.min", "Math.abs", "Math.floorMod", "Integer.bitCount", "Integer.numberOfTrailingZeros"};
        Matcher calls = Pattern.compile("\\b(Math|Integer|Long|String|StringBuilder|Character)\\.\\w+").matcher(bare);
        while (calls.find()) must(Arrays.asList(allowed).contains(calls.group()), "of the library: " + calls.group());
        String[] lines = text.split("\n");
        int from = -1;
        for (int i = 0; i < lines.length; i++) {
            if (lines[i].matches("    (    )?\\w.*\\) \\{")) from = i;
            if (from >= 0 && lines[i].matches("    (    )?\\}")) {
                must(i - from <= 60, "sixty lines: " + lines[from].trim());
                from = -1;
            }
        }
    }

    /** Calls that are no recursion go at most eight deep; methods of like name in several classes count as one. */
    private static void depth(String text) {
        String bare = text.replaceAll("(?s)/\\*.*?\\*/", " ").replaceAll("//[^\n]*", " ").replaceAll("\"[^\"\n]*\"", "\"\"");
        Map<String, Set<String>> calls = new TreeMap<>();
        Pattern head = Pattern.compile("    (?:    )?(?:[\\w\\[\\]]+ )+(\\w+)\\([^()]*\\) \\{");
        String method = null;
        for (String line : bare.split("\n")) {
            Matcher m = head.matcher(line);
            if (m.matches()) {
                method = m.group(1);
                calls.putIfAbsent(method, new TreeSet<>());
            } else if (method != null) {
                Matcher call = Pattern.compile("\\b(\\w+)\\(").matcher(line);
                while (call.find()) calls.get(method).add(call.group(1));
            }
        }
        for (Set<String> called : calls.values()) called.retainAll(calls.keySet());
        Map<String, Set<String>> reached = new TreeMap<>();
        for (String name : calls.keySet()) reach(name, calls, reached.computeIfAbsent(name, k -> new TreeSet<>()));
        int methods = 0;
        int deepest = 0;
        for (String name : calls.keySet()) {
            methods++;
            deepest = Math.max(deepest, deep(name, calls, reached, new TreeMap<>()));
        }
        must(methods > 100 && deepest > 4 && deepest <= 8, "eight deep: " + deepest + " of " + methods + " methods");
    }

    private static void reach(String name, Map<String, Set<String>> calls, Set<String> found) {
        for (String next : calls.get(name)) if (found.add(next)) reach(next, calls, found);
    }

    private static int deep(String name, Map<String, Set<String>> calls, Map<String, Set<String>> reached, Map<String, Integer> known) {
        if (known.containsKey(name)) return known.get(name);
        Set<String> circle = new TreeSet<>(Set.of(name));
        for (String other : reached.get(name)) if (reached.get(other).contains(name)) circle.add(other);
        int below = 0;
        for (String one : circle)
            for (String next : calls.get(one)) if (!circle.contains(next)) below = Math.max(below, deep(next, calls, reached, known));
        known.put(name, below + 1);
        return below + 1;
    }

    /** Only a text that is read makes objects; all else uses what the constructor made. */
    private static void room() {
        com.sun.management.ThreadMXBean bean = (com.sun.management.ThreadMXBean) ManagementFactory.getThreadMXBean();
        long before = 0;
        for (int round = 0; round < 3; round++) {
            LeanStair x = new LeanStair();
            x.feed(0x73746169, 0x7220303b, 0x20202020, 0x20202020, 0x20202020);
            x.stair(20);
            for (int i = 0; i < 5; i++) x.bring(0, 5);
            x.numbers(0, 2, 3);
            before = bean.getThreadAllocatedBytes(Thread.currentThread().getId());
            for (int i = 0; i < 9; i++) askAll(x, i);
            before = bean.getThreadAllocatedBytes(Thread.currentThread().getId()) - before;
        }
        must(before < 2000, "calls make nothing: " + before + " bytes");
        long id = Thread.currentThread().getId();
        long start = bean.getThreadAllocatedBytes(id);
        LeanStair x = new LeanStair();
        long made = bean.getThreadAllocatedBytes(id) - start;
        must(made < 60000, "a new object: " + made + " bytes");
        start = bean.getThreadAllocatedBytes(id);
        for (int i = 0; i < 45; i++) x.feed(i, i, i, i, i);
        x.stair(900);
        made = bean.getThreadAllocatedBytes(id) - start;
        must(made < 20000, "a text of 900 bytes: " + made + " bytes");
    }

    private static void askAll(LeanStair x, int i) {
        x.fault(i); x.person(i, 7); x.step(0, i); x.stands(); x.crack(0); x.spare(); x.see(i); x.undo(1); x.bring(0, i); x.move(i, 0); x.prop(0); x.days(1);
        x.judge(0, i); x.perform(0); x.year(i, 5); x.undo(1); x.holds(i); x.fewest(1); x.holdings(); x.needed(); x.most(1); x.served(1); x.instead(i); x.swap(i);
        x.props(0); x.mends(0); x.sinks(); x.stay(i); x.builds(0, i); x.bound(0, i, 0); x.trial(0, i); x.wins(); x.best(); x.lasts(); x.share(i, 0); x.pillar();
        x.chance(0); x.where(i); x.write(0, 0, i); x.lists(0); x.image(0); x.restore(0); x.count(9);
    }
}
