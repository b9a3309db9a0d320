import java.lang.reflect.Method;
import java.lang.reflect.Modifier;
import java.util.ArrayList;
import java.util.HashMap;
import java.util.List;
import java.util.Map;
import java.util.regex.Matcher;
import java.util.regex.Pattern;

/**
 * Runs of calls told in a row: "see(0)=2 see(7)!-11 prop(0)*3".
 * = the answer that is due; ! the code of a refusal, behind which nothing has changed; ~ a fault, behind which all
 * but the fault and the tape is as it was; *n so many times. Ahead of what the class can do:
 * fill(tray, v, ..) writes a tray of 64 bits, tell(i) tells the run's other text i.
 */
class Runs extends Check {
    private static final Pattern ROW = Pattern.compile("([a-z]+)\\(([^)]*)\\)(?:\\*(\\d+))?(?:([=!~])(-?\\d+))?");
    private static final Map<String, Method> FACE = new HashMap<>();

    static {
        for (Method m : LeanStair.class.getDeclaredMethods()) if (Modifier.isPublic(m.getModifiers())) FACE.put(m.getName(), m);
    }

    private record Row(String name, long[] args, char mark, long want, String told) { }

    /** A new object, told a text if there is one, then all calls of the row. */
    static void run(String text, String calls, String... others) {
        List<Row> rows = rows(calls);
        LeanStair x = begin(text);
        for (int i = 0; i < rows.size(); i++) {
            Row r = rows.get(i);
            long got = call(x, r, others);
            if (r.mark != ' ') due(r.told + " of '" + text + "' " + calls, got, r.want);
            if (r.mark == '!' || r.mark == '~') unchanged(text, calls, rows, i, others);
        }
    }

    private static LeanStair begin(String text) {
        return text == null ? new LeanStair() : told(text);
    }

    private static List<Row> rows(String calls) {
        List<Row> rows = new ArrayList<>();
        for (String told : calls.trim().split("\\s+")) {
            Matcher m = ROW.matcher(told);
            if (!m.matches()) throw new IllegalArgumentException("no call: " + told);
            String[] parts = m.group(2).isEmpty() ? new String[0] : m.group(2).split(",");
            long[] args = new long[parts.length];
            for (int i = 0; i < parts.length; i++) args[i] = Long.parseLong(parts[i]);
            char mark = m.group(4) == null ? ' ' : m.group(4).charAt(0);
            long want = m.group(5) == null ? 0 : Long.parseLong(m.group(5));
            int times = m.group(3) == null ? 1 : Integer.parseInt(m.group(3));
            for (int i = 1; i <= times; i++) rows.add(new Row(m.group(1), args, i == times ? mark : ' ', want, told));
        }
        return rows;
    }

    private static long call(LeanStair x, Row r, String[] others) {
        if (r.name.equals("tell")) return tell(x, others[(int) r.args[0]]);
        if (r.name.equals("fill")) {
            tray(x, (int) r.args[0], java.util.Arrays.copyOfRange(r.args, 1, r.args.length));
            return 0;
        }
        Method m = FACE.get(r.name);
        Object[] args = new Object[r.args.length];
        for (int i = 0; i < args.length; i++) {
            if (m.getParameterTypes()[i] == long.class) args[i] = r.args[i];
            else args[i] = Math.toIntExact(r.args[i]);
        }
        try {
            return ((Number) m.invoke(x, args)).longValue();
        } catch (ReflectiveOperationException e) {
            throw new IllegalStateException(r.told, e);
        }
    }

    /** One object made all calls up to a refused one, its twin all but this one: they answer all else alike. */
    private static void unchanged(String text, String calls, List<Row> rows, int refused, String[] others) {
        boolean all = rows.get(refused).mark == '!';
        LeanStair x = begin(text);
        LeanStair twin = begin(text);
        for (int i = 0; i <= refused; i++) {
            call(x, rows.get(i), others);
            if (i < refused) call(twin, rows.get(i), others);
        }
        List<String> got = all ? Probe.all(x) : Probe.butTape(x);
        List<String> want = all ? Probe.all(twin) : Probe.butTape(twin);
        for (int i = 0; i < Math.max(got.size(), want.size()); i++) {
            String a = i < got.size() ? got.get(i) : "nothing";
            String b = i < want.size() ? want.get(i) : "nothing";
            if (a.equals(b)) continue;
            wrong(rows.get(refused).told + " of '" + text + "' " + calls + " changed something: " + a + ", due is " + b);
            return;
        }
    }
}
