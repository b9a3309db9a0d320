import java.lang.reflect.InvocationTargetException;
import java.lang.reflect.Method;
import java.lang.reflect.Modifier;
import java.util.ArrayList;
import java.util.Arrays;
import java.util.Comparator;
import java.util.List;
import java.util.Random;

/** Runs of drawn calls, each answer held against the model's. */
public final class ModelTest {
    private static final int CALLS = 512;
    private static int wrong = 0;
    private static long compared = 0;

    private final Random r;
    private final LeanStair real = new LeanStair();
    private final Model model = new Model();
    private final List<String> log = new ArrayList<>();
    private final List<Method> asked = new ArrayList<>();
    private int calls = 0;
    private final int run;

    private ModelTest(int run) {
        this.run = run;
        r = new Random(7919L * run + 13);
        for (Method m : LeanStair.class.getDeclaredMethods())
            if (Modifier.isPublic(m.getModifiers()) && !m.getName().equals("feed") && !m.getName().equals("stair")) asked.add(m);
        asked.sort(Comparator.comparing(Method::getName));
    }

    public static void main(String[] args) throws Exception {
        int first = args.length > 0 ? Integer.parseInt(args[0]) : 0;
        int runs = args.length > 1 ? Integer.parseInt(args[1]) : 1500;
        for (int run = first; run < first + runs && wrong < 5; run++) new ModelTest(run).go();
        System.out.println(compared + " answers compared, " + wrong + " runs wrong");
        if (wrong != 0) System.exit(1);
    }

    private boolean call(String name, Object... args) throws Exception {
        if (calls >= CALLS) return false;
        calls++;
        compared++;
        Class<?>[] types = new Class<?>[args.length];
        for (int i = 0; i < args.length; i++) types[i] = args[i] instanceof Long ? long.class : int.class;
        Object got;
        try {
            got = LeanStair.class.getMethod(name, types).invoke(real, args);
        } catch (InvocationTargetException e) {
            got = e.getCause().toString();
        }
        Method m = Model.class.getDeclaredMethod(name, types);
        Object want = m.invoke(model, args);
        log.add(name + Arrays.toString(args) + " -> " + got);
        if (got.equals(want)) return true;
        wrong++;
        System.out.println("run " + run + ", call " + calls + ": due is " + want);
        for (String line : log) System.out.println("  " + line);
        calls = CALLS;
        return false;
    }

    private void go() throws Exception {
        while (calls < CALLS - 60) {
            tellStair();
            int n = 10 + r.nextInt(90);
            for (int i = 0; i < n && calls < CALLS; i++) {
                if (r.nextInt(12) == 0) fillTray();
                else drawCall();
            }
            lookAround();
        }
    }

    private void tellStair() throws Exception {
        byte[] text = new Texts(r).draw();
        // Most stairs that are drawn fall at once; those that stand have more to tell.
        for (int i = 0; i < 6 && !Model.wouldStand(text) && r.nextInt(5) > 0; i++) text = new Texts(r).draw();
        log.add("text: " + new String(text, java.nio.charset.StandardCharsets.ISO_8859_1));
        int lead = model.count(11);
        if (lead > 0 && !call("stair", 0)) return;
        for (int i = 0; i < text.length; i += 20) {
            Object[] ints = new Object[5];
            for (int k = 0; k < 5; k++) {
                int v = 0;
                for (int b = 0; b < 4; b++) {
                    int at = i + 4 * k + b;
                    v = v << 8 | (at < text.length ? text[at] & 255 : 32);
                }
                ints[k] = v;
            }
            if (!call("feed", ints)) return;
        }
        if (r.nextInt(9) == 0) call("stair", r.nextBoolean() ? -1 : text.length + 21);
        call("stair", text.length);
        call("fault", 0);
        call("fault", 1);
    }

    private void fillTray() throws Exception {
        int tray = r.nextInt(4);
        int n = r.nextInt(4) == 0 ? r.nextInt(13) : 1 + r.nextInt(4);
        call("numbers", tray, r.nextInt(8) == 0 ? 0 : 1 + r.nextInt(3), n);
        boolean trials = r.nextBoolean();
        for (int i = 0; i < n; i++) {
            long v = trials ? 2L * (r.nextInt(512) & r.nextInt(512) & model.count(2)) + r.nextInt(2) : deed();
            if (trials && r.nextInt(3) > 0) v = v & ~1L | model.holds((int) (v >> 1) ^ model.count(2)) & 1;
            if (r.nextInt(40) == 0) v = r.nextLong() >> r.nextInt(64);
            call("write", tray, i, v);
        }
        for (int what = 0; what < 4; what++) call("judge", tray, what);
        if (trials) {
            int p = r.nextInt(r.nextInt(6) == 0 ? 10 : Math.max(1, model.count(1)));
            call("builds", tray, p);
            call("bound", tray, p, 0);
            call("bound", tray, p, 1);
            call("trial", tray, p);
        } else if (r.nextBoolean()) {
            call("perform", tray);
        }
    }

    private long deed() {
        switch (r.nextInt(8)) {
            case 0: case 1: case 2: return r.nextInt(r.nextInt(5) == 0 ? 10 : Math.max(1, model.count(1)));
            case 3: return 100 + r.nextInt(100);
            case 4: return 200 + r.nextInt(r.nextInt(4) == 0 ? 10 : model.count(0));
            case 5: return -1;
            case 6: return 100 + 10 * r.nextInt(6) + r.nextInt(4);
            default: return r.nextInt(30) == 0 ? r.nextInt(400) - 100 : -1;
        }
    }

    private void drawCall() throws Exception {
        Method m = asked.get(r.nextInt(asked.size()));
        // Once it is fallen nothing can be done: go back, so that the run has something to go on with.
        if (model.count(3) == 1 && model.count(10) > 0 && r.nextInt(3) == 0) {
            call("undo", 1);
            return;
        }
        Object[] args = new Object[m.getParameterCount()];
        for (int i = 0; i < args.length; i++) {
            args[i] = m.getParameterTypes()[i] == long.class ? (Object) r.nextLong() : (Object) drawInt(m.getName(), i);
        }
        call(m.getName(), args);
    }

    private int drawInt(String name, int i) {
        if (r.nextInt(60) == 0) return new int[] {-1, Integer.MIN_VALUE, Integer.MAX_VALUE, -2, 1 << 20}[r.nextInt(5)];
        switch (name + i) {
            case "year0": return r.nextInt();
            case "year1": return r.nextInt(r.nextBoolean() ? 5 : 43);
            case "days0": return r.nextInt(r.nextInt(5) == 0 ? 102 : 4);
            case "undo0": return 1 + r.nextInt(r.nextInt(5) == 0 ? 12 : 2);
            case "holds0": return r.nextInt(512) & (r.nextInt(4) == 0 ? -1 : model.count(2));
            case "bring1": case "swap0": case "stay0": case "where0": return r.nextInt(r.nextInt(8) == 0 ? 102 : 40);
            case "props0": case "mends0": return r.nextInt(4) == 0 ? r.nextInt(20) : r.nextInt(3) == 0 ? 0 : 10 + r.nextInt(4);
            case "numbers2": return r.nextInt(43);
            case "write1": return r.nextInt(5);
            case "person1": return r.nextInt(9);
            case "step1": return r.nextInt(6);
            case "count0": return r.nextInt(14);
            case "see0": case "move0": case "person0": case "instead0": case "share0": case "builds1": case "bound1": case "trial1":
                return r.nextInt(r.nextInt(6) == 0 ? 10 : Math.max(1, model.count(1)));
            case "step0": case "prop0": case "bring0": case "move1":
                return r.nextInt(r.nextInt(6) == 0 ? 10 : Math.max(1, model.count(0)));
            default: return r.nextInt(r.nextInt(8) == 0 ? 5 : 2);
        }
    }

    private void lookAround() throws Exception {
        if (r.nextInt(3) > 0 || calls > CALLS - 60) return;
        for (int what = 0; what < 13; what++) call("count", what);
        for (int k = 0; k < model.count(0); k++) for (int what = 0; what < 5; what++) call("step", k, what);
        for (int p = 0; p < model.count(1); p++) for (int what = 0; what < 8; what++) call("person", p, what);
    }
}
