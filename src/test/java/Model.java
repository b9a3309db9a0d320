import java.math.BigInteger;
import java.util.ArrayList;
import java.util.Arrays;
import java.util.List;

/** Answers the calls of LeanStair by the document's words, by plain trying out. */
final class Model {
    static final class Fault extends RuntimeException {
        private static final long serialVersionUID = 1;
        final int kind;
        final int place;
        Fault(int kind, int place) {
            super(null, null, false, false);
            this.kind = kind;
            this.place = place;
        }
    }

    interface Sum { long of(Facts f); }
    interface Truth { boolean of(Facts f); }
    record Facts(int who, int build, int age, int step, int day, int wed, int left) { }
    record Token(int place, String text) { }

    static final class Person {
        int step, build, age, frail, by = -1, mate = -1;
        boolean there = true;
        Person copy() {
            Person c = new Person();
            c.step = step; c.build = build; c.age = age; c.frail = frail; c.by = by; c.mate = mate; c.there = there;
            return c;
        }
    }

    static final class Stair {
        int[] loads = {0};
        int[] takes = {0};
        List<Person> people = new ArrayList<>();
        int[] props = {0};
        int quota = 1, day = 0, lines = 0, seen = 0;
        boolean fallen;
        Sum bears = f -> f.build();
        Truth may = f -> true;
        Stair copy() {
            Stair c = new Stair();
            c.loads = loads; c.takes = takes; c.bears = bears; c.may = may;
            for (Person p : people) c.people.add(p.copy());
            c.props = props.clone();
            c.quota = quota; c.day = day; c.lines = lines; c.seen = seen; c.fallen = fallen;
            return c;
        }
        int there() {
            int set = 0;
            for (int p = 0; p < people.size(); p++) if (people.get(p).there) set |= 1 << p;
            return set;
        }
    }

    // ---- the text

    static final class Parser {
        final byte[] text;
        final List<Token> tokens = new ArrayList<>();
        int badPlace = -1;
        int i = 0;
        Stair stair = new Stair();
        boolean inMay;

        Parser(byte[] text) {
            this.text = text;
            int at = 0;
            while (at < text.length) {
                int c = text[at];
                if (c == 10 || c == 32) { at++; continue; }
                int end = at + 1;
                if (c >= 'a' && c <= 'z') {
                    while (end < text.length && text[end] >= 'a' && text[end] <= 'z') end++;
                } else if (c >= '0' && c <= '9') {
                    while (end < text.length && text[end] >= '0' && text[end] <= '9') end++;
                    if (end - at > 3) { badPlace = at; return; }
                } else if (c <= 0 || ";:+-*()[]=<>".indexOf(c) < 0) {
                    badPlace = at;
                    return;
                }
                tokens.add(new Token(at, new String(text, at, end - at, java.nio.charset.StandardCharsets.ISO_8859_1)));
                at = end;
            }
        }

        String peek() {
            if (i < tokens.size()) return tokens.get(i).text();
            if (badPlace >= 0) throw new Fault(1, badPlace);
            return "";
        }
        Fault fault(int kind) {
            return new Fault(kind, i < tokens.size() ? tokens.get(i).place() : text.length);
        }
        boolean is(String t) { return peek().equals(t); }
        boolean take(String t) {
            if (!is(t)) return false;
            i++;
            return true;
        }
        void must(String t) { if (!take(t)) throw fault(2); }
        boolean isN() { String t = peek(); return !t.isEmpty() && Character.isDigit(t.charAt(0)); }
        int n(int low, int high) {
            if (!isN()) throw fault(2);
            int v = Integer.parseInt(peek());
            if (v < low || v > high) throw fault(3);
            i++;
            return v;
        }

        Stair all() {
            must("stair");
            List<Integer> loads = new ArrayList<>();
            loads.add(n(0, 999));
            while (isN()) {
                if (loads.size() == 8) throw fault(2);
                loads.add(n(0, 999));
            }
            must(";");
            stair.lines = 1;
            stair.loads = loads.stream().mapToInt(v -> v).toArray();
            stair.takes = new int[loads.size()];
            stair.props = new int[loads.size()];
            while (!peek().isEmpty()) {
                line();
                must(";");
                stair.lines++;
            }
            return stair;
        }

        void line() {
            String w = peek();
            if (w.equals("person") && stair.people.size() == 9) throw fault(4);
            if (!Arrays.asList("joint", "person", "couple", "quota", "bears", "may", "day").contains(w)) throw fault(2);
            i++;
            switch (w) {
                case "joint" -> {
                    int k = n(0, stair.loads.length - 2);
                    must("takes");
                    stair.takes[k] = n(0, 999);
                }
                case "person" -> person();
                case "couple" -> {
                    int a = n(0, stair.people.size() - 1);
                    if (stair.people.get(a).mate >= 0) { i--; throw fault(3); }
                    int b = n(0, stair.people.size() - 1);
                    if (a == b || stair.people.get(b).mate >= 0) { i--; throw fault(3); }
                    stair.people.get(a).mate = b;
                    stair.people.get(b).mate = a;
                }
                case "quota" -> stair.quota = n(1, 9);
                case "day" -> stair.day = n(0, 999);
                case "bears" -> {
                    must(":");
                    inMay = false;
                    stair.bears = sum(0);
                }
                default -> {
                    must(":");
                    inMay = true;
                    stair.may = truth(0);
                }
            }
        }

        void person() {
            Person p = new Person();
            must("on");
            p.step = n(0, stair.loads.length - 1);
            must("build");
            p.build = n(0, 99);
            while (true) {
                if (take("age")) p.age = n(0, 99);
                else if (take("frail")) p.frail = n(0, 10);
                else if (take("by")) p.by = n(0, 999);
                else break;
            }
            stair.people.add(p);
        }

        static long kept(long v) { return v < -1000000 ? -1000000 : v > 1000000 ? 1000000 : v; }

        Sum sum(int around) {
            Sum left = term(around);
            while (is("+") || is("-")) {
                boolean plus = is("+");
                i++;
                Sum a = left, b = term(around);
                left = plus ? f -> kept(a.of(f) + b.of(f)) : f -> kept(a.of(f) - b.of(f));
            }
            return left;
        }
        Sum term(int around) {
            Sum left = atom(around);
            while (take("*")) {
                Sum a = left, b = atom(around);
                left = f -> kept(a.of(f) * b.of(f));
            }
            return left;
        }
        Sum atom(int around) {
            if (isN()) {
                int v = n(0, 999);
                return f -> v;
            }
            if (is("(")) {
                if (around == 6) throw fault(4);
                i++;
                Sum inner = sum(around + 1);
                must(")");
                return inner;
            }
            if (take("who")) return f -> f.who();
            if (take("build")) return f -> f.build();
            if (take("age")) return f -> f.age();
            if (take("step")) return f -> f.step();
            if (take("day")) return f -> f.day() % 7;
            if (take("wed")) return f -> f.wed();
            if (inMay && take("wait")) return f -> f.left();
            throw fault(2);
        }
        Truth truth(int around) {
            Truth left = both(around);
            while (take("or")) {
                Truth a = left, b = both(around);
                left = f -> a.of(f) || b.of(f);
            }
            return left;
        }
        Truth both(int around) {
            Truth left = unit(around);
            while (take("and")) {
                Truth a = left, b = unit(around);
                left = f -> a.of(f) && b.of(f);
            }
            return left;
        }
        Truth unit(int around) {
            if (is("not") || is("[")) {
                if (around == 6) throw fault(4);
                if (take("not")) {
                    Truth inner = unit(around + 1);
                    return f -> !inner.of(f);
                }
                i++;
                Truth inner = truth(around + 1);
                must("]");
                return inner;
            }
            Sum a = sum(around);
            String sign = peek();
            if (!sign.equals("=") && !sign.equals("<") && !sign.equals(">")) throw fault(2);
            i++;
            Sum b = sum(around);
            return switch (sign) {
                case "=" -> f -> a.of(f) == b.of(f);
                case "<" -> f -> a.of(f) < b.of(f);
                default -> f -> a.of(f) > b.of(f);
            };
        }
    }

    // ---- the state

    private final List<Byte> tape = new ArrayList<>();
    private int faultKind = 0, faultPlace = -1;
    private Stair now = new Stair();
    private final List<Stair> past = new ArrayList<>();
    private final Stair[] images = new Stair[2];
    private final long[][] trays = new long[4][];
    private final int[] sorts = new int[4];

    // ---- bearing and standing

    static int bears(Stair s, int p, int set, int later) {
        Person q = s.people.get(p);
        int wed = q.mate >= 0 && (set >> q.mate & 1) == 1 ? 1 : 0;
        long v = s.bears.of(new Facts(p, q.build, q.age + later, q.step, s.day + later, wed, 0));
        return (int) Math.max(0, Math.min(999, v));
    }
    static int[] rows(Stair s, int set, int later) {
        int[] r = new int[s.loads.length];
        for (int k = 0; k < r.length; k++) r[k] = 10 * s.props[k];
        for (int p = 0; p < s.people.size(); p++) if ((set >> p & 1) == 1) r[s.people.get(p).step] += bears(s, p, set, later);
        return r;
    }
    /** By passing loads on from the first step to the last: what can come over each joint. */
    static boolean stands(Stair s, int[] r) {
        int low = 0, high = 0;
        for (int k = 0; k < r.length; k++) {
            int takes = k + 1 < r.length ? s.takes[k] : 0;
            low = Math.max(low + s.loads[k] - r[k], -takes);
            high = Math.min(high + s.loads[k], takes);
            if (low > high) return false;
        }
        return true;
    }
    static boolean holding(Stair s, int set) { return stands(s, rows(s, set, 0)); }
    static int spare(Stair s, int[] r) {
        int least = Integer.MAX_VALUE;
        for (int i = 0; i < r.length; i++) for (int j = i; j < r.length; j++) least = Math.min(least, over(s, r, i, j));
        return least;
    }
    static int over(Stair s, int[] r, int i, int j) {
        int have = (i > 0 ? s.takes[i - 1] : 0) + (j + 1 < r.length ? s.takes[j] : 0);
        for (int k = i; k <= j; k++) have += r[k] - s.loads[k];
        return have;
    }
    static List<Integer> subsets(int set) {
        List<Integer> all = new ArrayList<>();
        for (int x = 0; x <= set; x++) if ((x & ~set) == 0) all.add(x);
        return all;
    }

    static boolean wouldStand(byte[] text) {
        try {
            Stair s = new Parser(text).all();
            return holding(s, s.there());
        } catch (Fault f) {
            return false;
        }
    }

    // ---- the stair

    int feed(int a, int b, int c, int d, int e) {
        if (tape.size() + 20 > 900) return -5;
        for (int v : new int[] {a, b, c, d, e}) for (int k = 3; k >= 0; k--) tape.add((byte) (v >> 8 * k));
        return tape.size();
    }
    int stair(int n) {
        if (n < 0 || n > tape.size()) return -3;
        byte[] text = new byte[n];
        for (int i = 0; i < n; i++) text[i] = tape.get(i);
        tape.clear();
        try {
            now = new Parser(text).all();
        } catch (Fault f) {
            faultKind = f.kind;
            faultPlace = f.place;
            return -30 - f.kind;
        }
        faultKind = 0;
        faultPlace = -1;
        now.fallen = !holding(now, now.there());
        past.clear();
        return now.lines;
    }
    int fault(int what) { return what == 0 ? faultKind : what == 1 ? faultPlace : -1; }
    private boolean told(int p) { return p >= 0 && p < now.people.size(); }
    int person(int p, int what) {
        if (!told(p) || what < 0 || what > 7) return -2;
        Person q = now.people.get(p);
        return new int[] {q.step, q.build, q.age, q.frail, q.by, q.mate, q.there ? 1 : 0,
            q.there ? bears(now, p, now.there(), 0) : 0}[what];
    }
    int step(int k, int what) {
        if (k < 0 || k >= now.loads.length || what < 0 || what > 4) return -2;
        int on = 0;
        for (int p = 0; p < now.people.size(); p++) if (now.people.get(p).there && now.people.get(p).step == k) on |= 1 << p;
        return new int[] {now.loads[k], rows(now, now.there(), 0)[k], now.props[k], on,
            k + 1 < now.loads.length ? now.takes[k] : 0}[what];
    }
    int stands() { return !now.fallen && holding(now, now.there()) ? 1 : 0; }
    int crack(int what) {
        if (what != 0 && what != 1) return -2;
        int[] r = rows(now, now.there(), 0);
        for (int i = 0; i < r.length; i++) for (int j = i; j < r.length; j++) if (over(now, r, i, j) < 0) return what == 0 ? i : j;
        return -1;
    }
    int spare() { return spare(now, rows(now, now.there(), 0)); }

    // ---- deeds

    private static int why(Stair s, String deed, int a, int b) {
        boolean person = a >= 0 && a < s.people.size();
        switch (deed) {
            case "see":
                if (!person) return 1;
                if (s.fallen || !s.people.get(a).there) return 2;
                if (s.seen + 1 > s.quota) return 3;
                Person q = s.people.get(a);
                int wed = q.mate >= 0 && s.people.get(q.mate).there ? 1 : 0;
                int wait = q.by < 0 ? 99 : q.by < s.day ? 0 : q.by - s.day;
                return s.may.of(new Facts(a, q.build, q.age, q.step, s.day, wed, wait)) ? 0 : 4;
            case "bring":
                if (a < 0 || a >= s.loads.length || b < 0 || b > 99) return 1;
                return s.fallen || s.people.size() == 9 ? 2 : 0;
            case "move":
                if (!person || b < 0 || b >= s.loads.length) return 1;
                int from = s.people.get(a).step;
                return s.fallen || !s.people.get(a).there || b != from + 1 && b != from - 1 ? 2 : 0;
            case "prop":
                if (a < 0 || a >= s.loads.length) return 1;
                return s.fallen || Arrays.stream(s.props).sum() == 99 ? 2 : 0;
            default:
                return s.fallen ? 2 : 0;
        }
    }
    private static int act(Stair s, String deed, int a, int b) {
        int why = why(s, deed, a, b);
        if (why != 0) return why;
        switch (deed) {
            case "see" -> { s.people.get(a).there = false; s.seen++; }
            case "bring" -> { Person q = new Person(); q.step = a; q.build = b; s.people.add(q); }
            case "move" -> s.people.get(a).step = b;
            case "prop" -> s.props[a]++;
            default -> { s.day++; s.seen = 0; for (Person q : s.people) q.age++; }
        }
        if (!holding(s, s.there())) s.fallen = true;
        return 0;
    }
    private void remember(Stair before) {
        past.add(before);
        if (past.size() > 10) past.remove(0);
    }
    private int one(String deed, int a, int b) {
        Stair before = now.copy();
        int why = act(now, deed, a, b);
        if (why == 0) remember(before);
        return why == 0 ? 0 : -10 - why;
    }
    int see(int p) { int r = one("see", p, 0); return r != 0 ? r : Integer.bitCount(now.there()); }
    int bring(int k, int build) { int r = one("bring", k, build); return r != 0 ? r : now.people.size() - 1; }
    int move(int p, int k) { int r = one("move", p, k); return r != 0 ? r : stands(); }
    int prop(int k) { int r = one("prop", k, 0); return r != 0 ? r : now.props[k]; }
    int days(int n) {
        if (n < 1 || n > 99) return -3;
        if (now.fallen) return -5;
        Stair before = now.copy();
        int done = 0;
        while (done < n && !now.fallen) { act(now, "day", 0, 0); done++; }
        remember(before);
        return done;
    }
    int undo(int n) {
        if (n < 1 || n > 10 || n > past.size()) return -3;
        for (int i = 0; i < n; i++) now = past.remove(past.size() - 1);
        return past.size();
    }
    private static int told(Stair s, long v) {
        if (v == -1) return act(s, "day", 0, 0);
        if (v >= 0 && v < 10) return act(s, "see", (int) v, 0);
        if (v >= 100 && v < 200) return act(s, "move", ((int) v - 100) / 10, (int) v % 10);
        if (v >= 200 && v < 210) return act(s, "prop", (int) v - 200, 0);
        return 1;
    }
    int judge(int tray, int what) {
        if (tray < 0 || tray > 3 || what < 0 || what > 3) return -2;
        if (trays[tray] == null) return -6;
        Stair s = now.copy();
        int place = -1, why = 0;
        for (int i = 0; i < trays[tray].length && why == 0; i++) {
            why = told(s, trays[tray][i]);
            if (why != 0) place = i;
        }
        return new int[] {place, why, s.there(), s.fallen ? 1 : 0}[what];
    }
    int perform(int tray) {
        if (tray < 0 || tray > 3) return -2;
        if (trays[tray] == null) return -6;
        Stair before = now.copy();
        int done = 0;
        while (done < trays[tray].length && told(now, trays[tray][done]) == 0) done++;
        if (done > 0) remember(before);
        return done;
    }
    private int x;
    private int draw() { x = x * 1103515245 + 12345; return x >>> 16; }
    int year(int seed, int times) {
        if (times < 1 || times > 40) return -3;
        Stair before = now.copy();
        x = seed;
        int done = 0;
        for (int i = 0; i < times; i++) {
            int what = draw() % 5, why;
            if (what == 0) why = act(now, "day", 0, 0);
            else if (what < 3) why = act(now, "see", draw() % 9, 0);
            else if (what == 3) { int p = draw() % 9; int k = draw() % 8; why = act(now, "move", p, k); }
            else why = act(now, "prop", draw() % 8, 0);
            if (why == 0) done++;
        }
        if (done > 0) remember(before);
        return done;
    }

    // ---- who holds it

    int holds(int set) { return (set & ~now.there()) != 0 ? -3 : holding(now, set) ? 1 : 0; }
    private static int pick(int set, int what) { return set < 0 ? -1 : what == 0 ? Integer.bitCount(set) : set; }
    int fewest(int what) {
        if (what != 0 && what != 1) return -2;
        for (int n = 0; n <= 9; n++)
            for (int set : subsets(now.there())) if (Integer.bitCount(set) == n && holding(now, set)) return pick(set, what);
        return -1;
    }
    int holdings() {
        int n = 0;
        for (int set : subsets(now.there())) if (holding(now, set)) n++;
        return n;
    }
    int needed() {
        int there = now.there(), set = 0;
        if (!holding(now, there)) return 0;
        for (int p = 0; p < now.people.size(); p++) if ((there >> p & 1) == 1 && !holding(now, there ^ 1 << p)) set |= 1 << p;
        return set;
    }
    int most(int what) {
        if (what != 0 && what != 1) return -2;
        int there = now.there();
        for (int n = 9; n >= 0; n--)
            for (int gone : subsets(there)) if (Integer.bitCount(gone) == n && holding(now, there & ~gone)) return pick(gone, what);
        return -1;
    }
    int served(int what) {
        if (what != 0 && what != 1) return -2;
        int there = now.there();
        for (int n = 9; n >= 0; n--)
            for (int set : subsets(there))
                if (Integer.bitCount(set) == n && holding(now, there & ~set) && inTime(set)) return pick(set, what);
        return -1;
    }
    /** Couples are tried on all days; the others then take the room left, the most hurried first. */
    private boolean inTime(int set) {
        List<int[]> couples = new ArrayList<>();
        List<Integer> singles = new ArrayList<>();
        for (int p = 0; p < now.people.size(); p++) {
            if ((set >> p & 1) == 0) continue;
            Person q = now.people.get(p);
            if (q.by < now.day) return false;
            if (q.mate >= 0 && (set >> q.mate & 1) == 1) {
                if (p < q.mate) couples.add(new int[] {q.by, now.people.get(q.mate).by});
            } else singles.add(q.by);
        }
        singles.sort(null);
        int[] room = new int[12];
        Arrays.fill(room, now.quota);
        room[0] = now.quota - now.seen;
        return place(couples, 0, singles, room);
    }
    private boolean place(List<int[]> couples, int c, List<Integer> singles, int[] room) {
        if (c == couples.size()) {
            int[] left = room.clone();
            for (int by : singles) {
                int d = 0;
                while (d < left.length && left[d] < 1) d++;
                if (d == left.length || now.day + d > by) return false;
                left[d]--;
            }
            return true;
        }
        for (int d = 0; d < room.length; d++) {
            if (room[d] < 2 || now.day + d > couples.get(c)[0] || now.day + d > couples.get(c)[1]) continue;
            room[d] -= 2;
            boolean ok = place(couples, c + 1, singles, room);
            room[d] += 2;
            if (ok) return true;
        }
        return false;
    }

    // ---- instead, props, days

    /** A copy with one more, brought to step k today. */
    private static Stair with(Stair s, int k, int build) {
        Stair c = s.copy();
        Person q = new Person();
        q.step = k;
        q.build = build;
        c.people.add(q);
        return c;
    }
    int instead(int p) {
        if (!told(p)) return -2;
        if (!now.people.get(p).there || now.people.size() == 9) return -5;
        for (int b = 0; b < 100; b++) {
            Stair c = with(now, now.people.get(p).step, b);
            c.people.get(p).there = false;
            if (holding(c, c.there())) return b;
        }
        return -1;
    }
    int swap(int build) {
        if (build < 0 || build > 99) return -3;
        if (now.people.size() == 9) return -5;
        int found = -1, most = -1;
        for (int p = 0; p < now.people.size(); p++) {
            if (!now.people.get(p).there) continue;
            Stair c = with(now, now.people.get(p).step, build);
            c.people.get(p).there = false;
            int left = spare(c, rows(c, c.there(), 0));
            if (left >= 0 && left > most) { most = left; found = p; }
        }
        return found;
    }
    int props(int what) { return propsFor(0, what); }
    int mends(int what) { return propsFor(now.there(), what); }
    private int propsFor(int set, int what) {
        int n = now.loads.length;
        if (what != 0 && (what < 10 || what >= 10 + n)) return -2;
        int[] r = rows(now, set, 0);
        int[] more = mended(r);
        int total = Arrays.stream(more).sum();
        if (total <= 7) {
            int[] tried = firstOf(r, total);
            if (!Arrays.equals(tried, more)) throw new IllegalStateException("the model's two ways differ");
            if (total > 0 && firstOf(r, total - 1) != null) throw new IllegalStateException("fewer would do");
        }
        return what == 0 ? total : more[what - 10];
    }
    /** A prop to the last step of the crack that ends first, till there is none. */
    private int[] mended(int[] bare) {
        int[] r = bare.clone();
        int[] more = new int[r.length];
        for (int j = 0; j < r.length; j++) {
            for (int i = 0; i <= j; i++) {
                while (over(now, r, i, j) < 0) {
                    r[j] += 10;
                    more[j]++;
                }
            }
        }
        if (!stands(now, r)) throw new IllegalStateException("not mended");
        return more;
    }
    private int[] firstOf(int[] r, int total) { return tryProps(r.clone(), new int[r.length], 0, total); }
    private int[] tryProps(int[] r, int[] more, int k, int left) {
        if (k == r.length - 1) {
            r[k] += 10 * left;
            more[k] = left;
            int[] got = stands(now, r) ? more.clone() : null;
            r[k] -= 10 * left;
            return got;
        }
        for (int here = 0; here <= left; here++) {
            r[k] += 10 * here;
            more[k] = here;
            int[] got = tryProps(r, more, k + 1, left - here);
            r[k] -= 10 * here;
            if (got != null) return got;
        }
        return null;
    }
    private static int sunk(Stair s) {
        for (int d = 0; d <= 99; d++) if (!stands(s, rows(s, s.there(), d))) return d;
        return 100;
    }
    int sinks() { int d = sunk(now); return d == 100 ? -1 : d; }
    int stay(int build) {
        if (build < 0 || build > 99) return -3;
        if (now.people.size() == 9) return -5;
        int found = -1, most = -1;
        for (int k = 0; k < now.loads.length; k++) {
            int d = sunk(with(now, k, build));
            if (d > most) { most = d; found = k; }
        }
        return found;
    }

    // ---- builds by trials

    private int refused(int tray, int p) {
        if (tray < 0 || tray > 3 || !told(p)) return -2;
        if (trays[tray] == null) return -6;
        if (trays[tray].length < 1 || trays[tray].length > 10) return -4;
        for (long v : trays[tray]) if (v < 0 || (v >> 1 & ~(long) now.there()) != 0) return -3;
        return now.people.get(p).there ? 0 : -5;
    }
    private List<Integer> rooms(int tray, int p) {
        List<Integer> found = new ArrayList<>();
        for (int b = 0; b < 100; b++) {
            Stair c = now.copy();
            c.people.get(p).build = b;
            boolean fits = true;
            for (long v : trays[tray]) fits &= holding(c, c.there() & ~(int) (v >> 1)) == ((v & 1) == 1);
            if (fits) found.add(b);
        }
        return found;
    }
    int builds(int tray, int p) { int r = refused(tray, p); return r != 0 ? r : rooms(tray, p).size(); }
    int bound(int tray, int p, int what) {
        if (what != 0 && what != 1) return -2;
        int r = refused(tray, p);
        if (r != 0) return r;
        List<Integer> all = rooms(tray, p);
        return all.isEmpty() ? -1 : all.get(what == 0 ? 0 : all.size() - 1);
    }
    int trial(int tray, int p) {
        int r = refused(tray, p);
        if (r != 0) return r;
        List<Integer> all = rooms(tray, p);
        if (all.isEmpty()) return -1;
        int found = -1, most = -1;
        for (int q = 0; q < now.people.size(); q++) {
            if (q == p || !now.people.get(q).there) continue;
            int stand = 0;
            for (int b : all) {
                Stair c = now.copy();
                c.people.get(p).build = b;
                c.people.get(q).there = false;
                if (holding(c, c.there())) stand++;
            }
            int lesser = Math.min(stand, all.size() - stand);
            if (lesser > most) { most = lesser; found = q; }
        }
        return found;
    }

    // ---- two clerks

    private final Boolean[] winMemo = new Boolean[512];
    private final Integer[] lastMemo = new Integer[512];
    private void newGame() { Arrays.fill(winMemo, null); Arrays.fill(lastMemo, null); }
    private boolean win(int set) {
        if (winMemo[set] == null) {
            boolean w = false;
            for (int p = 0; p < 9; p++) if ((set >> p & 1) == 1 && holding(now, set ^ 1 << p) && !win(set ^ 1 << p)) w = true;
            winMemo[set] = w;
        }
        return winMemo[set];
    }
    private int last(int set) {
        if (lastMemo[set] == null) {
            int few = 99, many = 0;
            for (int p = 0; p < 9; p++) {
                if ((set >> p & 1) == 0) continue;
                int rest = set ^ 1 << p;
                if (!holding(now, rest)) many = Math.max(many, 1);
                else if (win(rest)) many = Math.max(many, 1 + last(rest));
                else few = Math.min(few, 1 + last(rest));
            }
            lastMemo[set] = win(set) ? few : many;
        }
        return lastMemo[set];
    }
    int wins() { if (stands() == 0) return -5; newGame(); return win(now.there()) ? 1 : 0; }
    int best() {
        if (stands() == 0) return -5;
        newGame();
        int there = now.there();
        for (int p = 0; p < 9; p++) if ((there >> p & 1) == 1 && holding(now, there ^ 1 << p) && !win(there ^ 1 << p)) return p;
        return -1;
    }
    int lasts() { if (stands() == 0) return -5; newGame(); return last(now.there()); }

    // ---- shares, chances

    private int turned(int p) {
        int n = 0;
        for (int set : subsets(now.there() & ~(1 << p))) if (!holding(now, set) && holding(now, set | 1 << p)) n++;
        return n;
    }
    int share(int p, int what) {
        if (!told(p) || what < 0 || what > 1) return -2;
        if (!now.people.get(p).there) return -5;
        BigInteger above = BigInteger.valueOf(turned(p));
        BigInteger below = BigInteger.ONE.shiftLeft(Integer.bitCount(now.there()) - 1);
        return (what == 0 ? above : below).divide(above.gcd(below)).intValueExact();
    }
    int pillar() {
        int found = -1, most = -1;
        for (int p = 0; p < now.people.size(); p++)
            if (now.people.get(p).there && turned(p) > most) { most = turned(p); found = p; }
        return found;
    }
    private static BigInteger above(Stair s, int sure) {
        BigInteger sum = BigInteger.ZERO;
        for (int set : subsets(s.there())) {
            if ((set & sure) != sure) continue;
            BigInteger w = BigInteger.ONE;
            for (int p = 0; p < s.people.size(); p++)
                if (s.people.get(p).there)
                    w = w.multiply(BigInteger.valueOf((set >> p & 1) == 1 ? 10 - s.people.get(p).frail : s.people.get(p).frail));
            if (w.signum() > 0 && holding(s, set)) sum = sum.add(w);
        }
        return sum;
    }
    long chance(int what) {
        if (what != 0 && what != 1) return -2;
        BigInteger above = above(now, 0), below = BigInteger.TEN.pow(Integer.bitCount(now.there()));
        return (what == 0 ? above : below).divide(above.gcd(below)).longValueExact();
    }
    int where(int build) {
        if (build < 0 || build > 99) return -3;
        if (now.people.size() == 9) return -5;
        int found = -1;
        BigInteger most = BigInteger.ONE.negate();
        for (int k = 0; k < now.loads.length; k++) {
            BigInteger a = above(with(now, k, build), 1 << now.people.size());
            if (a.compareTo(most) > 0) { most = a; found = k; }
        }
        return found;
    }

    // ---- trays, images

    int numbers(int tray, int sort, int n) {
        if (tray < 0 || tray > 3 || sort < 0 || sort > 3) return -2;
        if (n < 0 || n > 40) return -3;
        trays[tray] = new long[n];
        sorts[tray] = sort;
        return 0;
    }
    private long cut(int tray, long v) {
        int bits = 8 << sorts[tray];
        return bits == 64 ? v : v << 64 - bits >> 64 - bits;
    }
    long write(int tray, int i, long v) {
        if (tray < 0 || tray > 3) return -2;
        if (trays[tray] == null) return -6;
        if (i < 0 || i >= trays[tray].length) return -7;
        return trays[tray][i] = cut(tray, v);
    }
    int lists(int tray) {
        if (tray < 0 || tray > 3) return -2;
        if (trays[tray] == null) return -6;
        int[] r = rows(now, now.there(), 0);
        int n = Math.min(r.length, trays[tray].length);
        for (int k = 0; k < n; k++) trays[tray][k] = cut(tray, r[k]);
        return n;
    }
    int image(int i) {
        if (i < 0 || i > 1) return -2;
        images[i] = now.copy();
        return 0;
    }
    int restore(int i) {
        if (i < 0 || i > 1) return -2;
        if (images[i] == null) return -5;
        now = images[i].copy();
        past.clear();
        return 0;
    }
    int count(int what) {
        return switch (what) {
            case 0 -> now.loads.length;
            case 1 -> now.people.size();
            case 2 -> now.there();
            case 3 -> now.fallen ? 1 : 0;
            case 4 -> now.seen;
            case 5 -> now.quota;
            case 6 -> Arrays.stream(now.props).sum();
            case 7 -> now.day;
            case 8 -> Arrays.stream(now.loads).sum();
            case 9 -> Arrays.stream(rows(now, now.there(), 0)).sum();
            case 10 -> past.size();
            case 11 -> tape.size();
            case 12 -> now.lines;
            default -> -1;
        };
    }
}
