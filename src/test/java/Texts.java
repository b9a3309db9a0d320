import java.nio.charset.StandardCharsets;
import java.util.ArrayList;
import java.util.List;
import java.util.Random;

/** Draws texts of stairs, and bytes that come near to one. */
final class Texts {
    private final Random r;
    private int steps;
    private int people;
    private int around;

    Texts(Random r) { this.r = r; }

    private int upTo(int n) { return r.nextInt(n + 1); }
    private String one(String... words) { return words[r.nextInt(words.length)]; }

    byte[] draw() {
        String text = whole();
        while (text.length() > 890) text = whole();
        if (r.nextInt(6) == 0) text = loosely(text);
        int slips = r.nextInt(4) == 0 ? 1 + upTo(1) : 0;
        for (int i = 0; i < slips; i++) text = slip(text);
        if (text.length() > 900) text = text.substring(0, 900);
        return text.getBytes(StandardCharsets.ISO_8859_1);
    }

    byte[] drawSlipped() {
        String text = whole();
        while (text.length() > 300) text = whole();
        int slips = 1 + upTo(2);
        for (int i = 0; i < slips; i++) text = r.nextInt(3) == 0 ? slip(text) : slipByToken(text);
        if (text.length() > 900) text = text.substring(0, 900);
        return text.getBytes(StandardCharsets.ISO_8859_1);
    }

    /** Laws as deep as they may be and deeper, and people up to the ninth and beyond. */
    byte[] drawDeep() {
        StringBuilder t = new StringBuilder("stair 0 0;");
        for (int p = r.nextInt(3) == 0 ? 7 + upTo(3) : 0; p > 0; p--) t.append("person on ").append(upTo(1)).append(" build 0;");
        for (int i = 1 + upTo(1); i > 0; i--) {
            if (r.nextBoolean()) t.append("may : ").append(deepTruth(4 + upTo(3))).append(one("", "", " and 1 = 1", " or not 1 = 1")).append(";");
            else t.append("bears : ").append(deepSum(4 + upTo(3))).append(one("", "", " + (1)", " * ((2) - 1)")).append(";");
        }
        return (r.nextInt(4) == 0 ? slipByToken(t.toString()) : t.toString()).getBytes(StandardCharsets.ISO_8859_1);
    }

    private String deepSum(int depth) {
        if (depth <= 0) return one("1", "build", "who + 1");
        String inner = "(" + deepSum(depth - 1) + ")";
        return one("", "", "1 - ", "2 * ", "(3) + ") + inner + one("", "", " + 1", " * age", " - (4)");
    }

    private String deepTruth(int depth) {
        if (depth <= 0) return one("1 = 1", "wait > 3", "(1) < (2)");
        switch (r.nextInt(4)) {
            case 0: return "not " + deepUnit(depth - 1);
            case 1: return deepSum(depth) + one(" = ", " < ", " > ") + "2";
            case 2: return one("", "2 = 1 or ", "not 1 = 2 and ") + "[" + deepTruth(depth - 1) + "]" + one("", " or 3 > 4");
            default: return "2 " + one("=", "<", ">") + " " + deepSum(depth);
        }
    }

    private String deepUnit(int depth) {
        if (depth <= 0) return one("1 = 1", "wait > 3");
        return r.nextBoolean() ? "not " + deepUnit(depth - 1) : "[" + deepTruth(depth - 1) + "]";
    }

    /** Tokens in hardly any order, behind a stair's first line. */
    byte[] drawBare() {
        String text = one("stair 5;", "stair 1 2 3;", "stair 9 9;person on 0 build 5;person on 1 build 7;", "stair 0;may : ", "stair 0;bears : ", "");
        for (int i = upTo(14); i > 0; i--) text += one(TOKENS) + one("", " ", " ", "\n");
        return text.getBytes(StandardCharsets.ISO_8859_1);
    }

    private static final String[] TOKENS = {"stair", "joint", "takes", "person", "on", "build", "age", "frail", "by", "couple", "quota", "bears", "may",
        "day", "or", "and", "not", "who", "step", "wed", "wait", ";", ":", "+", "-", "*", "(", ")", "[", "]", "=", "<", ">", "0", "1", "9", "10", "99", "100", "999", "1000",
        "007", "0000", "x", "stairs", "stai", "may : 1 = 1;", "bears : 2;", "couple 0 1;", "person on 0 build 3", ";", ";", ";", "joint 0 takes 3;", "not", "[", "(", "(", "not not not",
        "((((", "[[[", "1 = 1", "1 < wait", "A", "\t", "\r", "_", "\u00ff", "\u0080"};

    /** One of the text's tokens goes, comes twice, or another one comes in its place. */
    private String slipByToken(String text) {
        List<int[]> at = new ArrayList<>();
        java.util.regex.Matcher m = java.util.regex.Pattern.compile("[a-z]+|[0-9]+|[^ \n]").matcher(text);
        while (m.find()) at.add(new int[] {m.start(), m.end()});
        if (at.isEmpty()) return text;
        int[] t = at.get(r.nextInt(at.size()));
        String token = text.substring(t[0], t[1]);
        boolean number = Character.isDigit(token.charAt(0));
        String other = number && r.nextInt(3) > 0 ? "" + new int[] {0, 1, 2, 5, 8, 9, 10, 11, 99, 100, 999, 1000}[upTo(11)] : one(TOKENS);
        switch (r.nextInt(4)) {
            case 0: return text.substring(0, t[0]) + text.substring(t[1]);
            case 1: return text.substring(0, t[1]) + " " + token + text.substring(t[1]);
            default: return text.substring(0, t[0]) + other + text.substring(t[1]);
        }
    }

    private String whole() {
        steps = r.nextInt(5) == 0 ? 1 + upTo(7) : 1 + upTo(3);
        people = r.nextInt(3) == 0 ? upTo(9) : 2 + upTo(5);
        int heavy = new int[] {3, 12, 25, 40, r.nextInt(4) == 0 ? 999 : 40}[upTo(4)];
        StringBuilder t = new StringBuilder("stair");
        for (int k = 0; k < steps; k++) t.append(' ').append(upTo(heavy));
        t.append(';');
        List<String> lines = new ArrayList<>();
        for (int i = upTo(steps); i > 0 && steps > 1; i--) lines.add("joint " + upTo(steps - 2) + " takes " + upTo(Math.min(999, heavy)));
        for (int p = 0; p < people; p++) lines.add(person(heavy));
        if (r.nextInt(3) > 0) lines.add("quota " + (1 + upTo(r.nextBoolean() ? 2 : 8)));
        if (r.nextInt(3) > 0) lines.add("day " + upTo(r.nextBoolean() ? 9 : 999));
        if (r.nextInt(2) == 0) lines.add("bears : " + law(heavy));
        if (r.nextInt(6) == 0) lines.add("bears : " + law(heavy));
        if (r.nextInt(3) == 0) { around = 0; lines.add("may : " + truth(2)); }
        if (r.nextInt(4) == 0) java.util.Collections.shuffle(lines, r);
        List<Integer> free = new ArrayList<>();
        for (int p = 0; p < people; p++) free.add(p);
        java.util.Collections.shuffle(free, r);
        for (int i = 0; i + 1 < free.size() && r.nextInt(3) > 0; i += 2) lines.add("couple " + free.get(i) + " " + free.get(i + 1));
        for (String line : lines) t.append(line).append(r.nextInt(9) == 0 ? " ;\n" : ";");
        return t.toString();
    }

    private String person(int heavy) {
        StringBuilder t = new StringBuilder("person on " + upTo(steps - 1) + " build " + Math.min(99, r.nextInt(3) == 0 ? upTo(heavy) : upTo(heavy * 3)));
        if (r.nextInt(3) == 0) t.append(" age ").append(upTo(r.nextBoolean() ? 99 : 5));
        if (r.nextInt(3) == 0) t.append(" frail ").append(upTo(10));
        if (r.nextInt(2) == 0) t.append(" by ").append(upTo(r.nextBoolean() ? 9 : 14));
        if (r.nextInt(12) == 0) t.append(" by ").append(upTo(999));
        return t.toString();
    }

    private String law(int heavy) {
        around = 0;
        switch (r.nextInt(5)) {
            case 0: return "build + wed * " + upTo(heavy) + " - age";
            case 1: return "build * 2 - day * " + upTo(5) + " + step";
            case 2: return upTo(heavy * 2 > 999 ? 999 : heavy * 2) + " - (age - build) * (day - 3)";
            case 3: return "build - wed * " + upTo(Math.min(99, heavy)) + " + who";
            default: return sum(3);
        }
    }

    private String sum(int depth) {
        StringBuilder t = new StringBuilder(term(depth));
        for (int i = upTo(2); i > 0; i--) t.append(one(" + ", " - ", "+", "-")).append(term(depth));
        return t.toString();
    }
    private String term(int depth) {
        StringBuilder t = new StringBuilder(atom(depth, false));
        for (int i = r.nextInt(4); i > 2; i--) t.append(" * ").append(atom(depth, false));
        if (r.nextInt(3) == 0) t.append("*").append(atom(depth, false));
        return t.toString();
    }
    private String atom(int depth, boolean may) {
        if (depth > 0 && around < 7 && r.nextInt(3) == 0) {
            around++;
            String inner = sum(depth - 1);
            around--;
            return "(" + inner + ")";
        }
        return r.nextInt(3) == 0 ? "" + upTo(r.nextBoolean() ? 9 : 999) : one("who", "build", "age", "step", "day", "wed", "build", may ? "wait" : "build");
    }
    private String truth(int depth) {
        StringBuilder t = new StringBuilder(unit(depth));
        for (int i = upTo(2); i > 0; i--) t.append(one(" or ", " and ")).append(unit(depth));
        return t.toString();
    }
    private String unit(int depth) {
        if (depth > 0 && r.nextInt(3) == 0) return r.nextBoolean() ? "not " + unit(depth - 1) : "[" + truth(depth - 1) + "]";
        return one("wait", "age", "who", "wed", "day", sum(1), sum(1)) + one(" = ", " < ", " > ", ">", "<", "=") + one("3", "wait", "0", "build", sum(1));
    }

    /** Other blanks between the same tokens. */
    private String loosely(String text) {
        StringBuilder t = new StringBuilder();
        for (char c : text.toCharArray()) {
            boolean sign = ";:+-*()[]=<>".indexOf(c) >= 0;
            if (c == ' ' || sign && r.nextInt(5) == 0) t.append(one(" ", "\n", "  ", " \n "));
            if (c != ' ') t.append(c);
        }
        return t.toString();
    }

    private String slip(String text) {
        int at = upTo(text.length());
        int kind = r.nextInt(7);
        if (kind == 0) return text.substring(0, at);
        String put;
        if (kind < 3) put = one("(", ")", "[", "]", ";", ":", "=", "<", "+", "-", "*", " ", "\t", "A", "\u00e9", "\0", ".", "{", "/", "`", "9", "0", "z");
        else if (kind < 5) put = one(" not ", " ((((((( ", " [[[[[[[ ", " not not not not not not not ", " wait ", " stair ", " person ", " couple ",
            " 1000 ", " 999 ", " 100 ", " 0 ", " 11 ", " and ", " or ", ";joint 0 takes 5;", ";couple 0 1;", ";couple 1 0;", ";quota 0;", ";quota 10;", ";day 5;",
            ";person on 0 build 100;", ";person on 0 build 3;", ";bears : wait;", ";may : 1;", ";may : wait > 1;", " age 100 ", " frail 11 ", " by 7 ");
        else put = "";
        int to = kind == 6 || kind == 5 ? Math.min(text.length(), at + 1 + upTo(5)) : at;
        if (kind == 2) to = Math.min(text.length(), at + 1);
        return text.substring(0, at) + put + text.substring(to);
    }
}
