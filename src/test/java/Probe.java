import java.util.ArrayList;
import java.util.List;

/** All that an object can be asked, and what it goes on to do: two objects of like state tell the same. */
final class Probe {
    private final LeanStair x;
    private final List<String> told = new ArrayList<>();

    private Probe(LeanStair x) {
        this.x = x;
    }

    static List<String> all(LeanStair x) {
        Probe p = new Probe(x);
        p.put("fault(0)", x.fault(0));
        p.put("fault(1)", x.fault(1));
        p.put("count(11)", x.count(11));
        p.state();
        p.put("stair(all of the tape)", x.stair(x.count(11)));
        p.put("its fault", x.fault(0) * 1000 + x.fault(1));
        p.brief("behind the tape");
        return p.told;
    }

    static List<String> butTape(LeanStair x) {
        Probe p = new Probe(x);
        p.state();
        return p.told;
    }

    private void put(String call, long answer) {
        told.add(call + " answers " + answer);
    }

    private void state() {
        scene();
        questions();
        trays();
        past();
        places();
        images();
    }

    private void scene() {
        for (int what = 0; what < 13; what++) if (what != 11) put("count(" + what + ")", x.count(what));
        for (int p = 0; p < x.count(1); p++) for (int what = 0; what < 8; what++) put("person(" + p + ", " + what + ")", x.person(p, what));
        for (int k = 0; k < x.count(0); k++) for (int what = 0; what < 5; what++) put("step(" + k + ", " + what + ")", x.step(k, what));
    }

    private void questions() {
        put("stands()", x.stands());
        put("crack(0)", x.crack(0));
        put("crack(1)", x.crack(1));
        put("spare()", x.spare());
        put("holdings()", x.holdings());
        put("served(1)", x.served(1));
        put("sinks()", x.sinks());
        put("lasts()", x.lasts());
        put("chance(0)", x.chance(0));
    }

    /** What is in trays, as deeds and as trials. */
    private void trays() {
        for (int tray = 0; tray < 4; tray++) {
            for (int what = 0; what < 4; what++) put("judge(" + tray + ", " + what + ")", x.judge(tray, what));
            put("builds(" + tray + ", 0)", x.builds(tray, 0));
            put("bound(" + tray + ", 1, 0)", x.bound(tray, 1, 0));
        }
    }

    private void past() {
        for (int i = 0; i < 11 && x.count(10) > 0; i++) {
            put("undo(1)", x.undo(1));
            brief("behind undo(1)");
        }
    }

    /** How many places a tray has, and of which sort. */
    private void places() {
        for (int tray = 0; tray < 4; tray++) {
            long got = 0;
            for (int i = 0; i <= 40 && got != -6 && got != -7; i++) {
                got = x.write(tray, i, 0x8182838485868788L);
                put("write(" + tray + ", " + i + ", ..)", got);
            }
        }
    }

    private void images() {
        for (int i = 0; i < 2; i++) {
            put("restore(" + i + ")", x.restore(i));
            brief("behind restore(" + i + ")");
        }
    }

    private void brief(String when) {
        StringBuilder s = new StringBuilder();
        for (int what = 0; what < 13; what++) if (what != 11) s.append(x.count(what)).append(' ');
        for (int p = 0; p < x.count(1); p++) s.append(x.person(p, 0)).append(' ').append(x.person(p, 2)).append(' ');
        for (int k = 0; k < x.count(0); k++) s.append(x.step(k, 2)).append(' ').append(x.step(k, 4)).append(' ');
        told.add(when + " it is so: " + s);
    }
}
