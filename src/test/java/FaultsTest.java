import java.nio.charset.StandardCharsets;
import java.util.Random;

/** Texts with slips: whether there is a fault, of which kind and where, held against the model. */
public final class FaultsTest {
    private static byte[] draw(Random r) {
        Texts texts = new Texts(r);
        switch (r.nextInt(5)) {
            case 0: return texts.drawBare();
            case 1: return texts.drawDeep();
            default: return texts.drawSlipped();
        }
    }

    public static void main(String[] args) {
        int wrong = 0;
        int[] kinds = new int[5];
        LeanStair real = new LeanStair();
        Model model = new Model();
        int calls = 0;
        for (int run = 0; run < 60000 && wrong < 5; run++) {
            Random r = new Random(31L * run + 7);
            byte[] text = draw(r);
            if (calls + 61 > 512) {
                real = new LeanStair();
                model = new Model();
                calls = 0;
            }
            int n = text.length;
            for (int i = 0; i < n; i += 20) {
                int[] v = new int[5];
                for (int k = 0; k < 20; k++) v[k / 4] = v[k / 4] << 8 | (i + k < n ? text[i + k] & 255 : 59);
                real.feed(v[0], v[1], v[2], v[3], v[4]);
                model.feed(v[0], v[1], v[2], v[3], v[4]);
                calls++;
            }
            int got = real.stair(n);
            int want = model.stair(n);
            calls += 15;
            boolean same = got == want;
            for (int what = 0; what < 2; what++) same &= real.fault(what) == model.fault(what);
            for (int what = 0; what < 13; what++) same &= real.count(what) == model.count(what);
            kinds[model.fault(0)]++;
            if (!same) {
                wrong++;
                System.out.println("run " + run + ": " + got + " at " + real.fault(1) + ", due is " + want + " at " + model.fault(1)
                    + ": " + new String(text, StandardCharsets.ISO_8859_1));
            }
        }
        System.out.println(kinds[0] + " texts without a fault, of the kinds 1 to 4: " + kinds[1] + " " + kinds[2] + " " + kinds[3] + " " + kinds[4]
            + "; " + wrong + " wrong");
        for (int kind : kinds) if (kind < 300) wrong++;
        if (wrong != 0) System.exit(1);
    }
}
