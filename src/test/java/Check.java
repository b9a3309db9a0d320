import java.nio.charset.StandardCharsets;

/** What tests that were worked out by hand have in common: answers that are due, texts told, trays filled. */
class Check {
    private static int wrong = 0;
    private static int asked = 0;
    /** What is tested just now: a promise, a sentence. */
    private static String about = "";

    static void about(String what) {
        about = what;
    }

    static void due(String call, long got, long want) {
        asked++;
        if (got != want) wrong(call + " answered " + got + ", due is " + want);
    }

    static void wrong(String what) {
        wrong++;
        System.out.println(about + ": " + what);
    }

    static void finish() {
        System.out.println(asked + " answers asked for, " + wrong + " not as due");
        if (wrong != 0) System.exit(1);
    }

    /** Twenty bytes a call; blanks fill the last one up. */
    static void feed(LeanStair x, String text) {
        byte[] bytes = text.getBytes(StandardCharsets.ISO_8859_1);
        for (int i = 0; i < bytes.length; i += 20) {
            int[] v = new int[5];
            for (int k = 0; k < 20; k++) v[k / 4] = v[k / 4] << 8 | (i + k < bytes.length ? bytes[i + k] & 255 : 32);
            x.feed(v[0], v[1], v[2], v[3], v[4]);
        }
    }

    static int tell(LeanStair x, String text) {
        feed(x, text);
        return x.stair(text.length());
    }

    static LeanStair told(String text) {
        LeanStair x = new LeanStair();
        if (tell(x, text) < 0) wrong("the text has a fault: " + text);
        return x;
    }

    /** The text's fault, 0 if it has none, and its place. */
    static void at(String text, int kind, int place) {
        LeanStair x = new LeanStair();
        int got = tell(x, text);
        if (kind == 0) due("'" + text + "' read", got > 0 ? 1 : got, 1);
        else due("'" + text + "' read", got, -30 - kind);
        due("'" + text + "' fault(0)", x.fault(0), kind);
        due("'" + text + "' fault(1)", x.fault(1), place);
    }

    static void tray(LeanStair x, int tray, long... values) {
        x.numbers(tray, 3, values.length);
        for (int i = 0; i < values.length; i++) x.write(tray, i, values[i]);
    }
}
