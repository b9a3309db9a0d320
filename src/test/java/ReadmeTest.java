import java.nio.charset.StandardCharsets;
import java.nio.file.Files;
import java.nio.file.Path;
import java.util.ArrayList;
import java.util.List;
import java.util.regex.Matcher;
import java.util.regex.Pattern;

/** README.md's calls answer as it says there, and its text is told without a fault. */
public final class ReadmeTest extends Check {
    private static final Pattern FENCE = Pattern.compile("```(\\w+)\n(.*?)```", Pattern.DOTALL);
    private static final Pattern CALL = Pattern.compile("x\\.([a-z]+)\\(([^)]*)\\);\\s*// (-?\\d+)\\b.*");
    private static final Pattern TOLD = Pattern.compile("tell\\(x, \"([^\"]*)\"\\);");

    public static void main(String[] args) throws Exception {
        about("README.md");
        String page = Files.readString(Path.of("README.md"), StandardCharsets.UTF_8);
        int shown = 0;
        Matcher fences = FENCE.matcher(page);
        while (fences.find()) {
            if (fences.group(1).equals("text")) at(fences.group(2), 0, -1);
            if (fences.group(1).equals("java") && !fences.group(2).startsWith("static")) shown += show(fences.group(2));
        }
        due("calls that are shown", shown, 12);
        everyCallIsNamed(page);
        finish();
    }

    private static int show(String lines) throws Exception {
        LeanStair x = new LeanStair();
        int shown = 0;
        for (String line : lines.split("\n")) {
            Matcher told = TOLD.matcher(line.trim());
            Matcher call = CALL.matcher(line.trim());
            if (told.matches()) {
                tell(x, told.group(1));
            } else if (call.matches()) {
                due(line.trim(), answer(x, call.group(1), call.group(2)), Long.parseLong(call.group(3)));
                shown++;
            } else if (!line.startsWith("LeanStair x = new LeanStair();")) {
                wrong("a line that isn't tried: " + line);
            }
        }
        return shown;
    }

    private static long answer(LeanStair x, String name, String told) throws Exception {
        for (var m : LeanStair.class.getMethods()) {
            if (!m.getName().equals(name)) continue;
            List<Object> args = new ArrayList<>();
            String[] parts = told.isEmpty() ? new String[0] : told.split(",");
            for (int i = 0; i < parts.length; i++) {
                long v = Long.decode(parts[i].trim());
                if (m.getParameterTypes()[i] == long.class) args.add(v);
                else args.add((int) v);
            }
            return ((Number) m.invoke(x, args.toArray())).longValue();
        }
        throw new IllegalStateException("no call: " + name);
    }

    private static void everyCallIsNamed(String page) {
        for (var m : LeanStair.class.getDeclaredMethods())
            if (java.lang.reflect.Modifier.isPublic(m.getModifiers()))
                due("'" + m.getName() + "' is named", page.contains("`" + m.getName() + "`") ? 1 : 0, 1);
    }
}
