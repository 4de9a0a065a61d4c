import java.nio.file.Files;
import java.nio.file.Path;
import java.util.ArrayList;
import java.util.List;
import java.util.regex.Matcher;
import java.util.regex.Pattern;

/** The calls that README.md shows answer what it says behind them. */
public final class ReadmeTest {
    private static final Pattern CALL = Pattern.compile("x\\.(\\w+)\\((.*)\\); *// ([^:,]*).*");

    public static void main(String[] args) throws Exception {
        DrawCommands x = new DrawCommands();
        for (String line : shown()) {
            Matcher m = CALL.matcher(line);
            if (!m.matches()) {
                Check.same(line + " is a call with its answer", 0, 1);
                continue;
            }
            String got = answer(x, m.group(1), m.group(2).split(", *"));
            boolean asShown = got.isEmpty() || got.equals(m.group(3));
            Check.same(line + " answered " + got + ": as it says", asShown ? 1 : 0, 1);
        }
        Check.end();
    }

    private static List<String> shown() throws Exception {
        List<String> calls = new ArrayList<>();
        boolean inside = false;
        for (String line : Files.readAllLines(Path.of("README.md"))) {
            if (line.startsWith("```")) {
                inside = line.equals("```java");
            } else if (inside && line.startsWith("x.")) {
                calls.add(line);
            }
        }
        return calls;
    }

    /** Empty for a call that answers nothing. */
    private static String answer(DrawCommands x, String name, String[] a) {
        try {
            switch (name) {
                case "word": return "" + x.word(number(a, 0), number(a, 1));
                case "put": return "" + x.put(number(a, 0));
                case "next": return "" + x.next();
                case "argument": return "" + x.argument(number(a, 0));
                case "kept": return "" + x.kept(number(a, 0), number(a, 1), number(a, 2));
                case "about": return "" + x.about(number(a, 0));
                case "frame": x.frame(number(a, 0), number(a, 1)); return "";
                case "clear": x.clear(); return "";
                case "begin": x.begin(Boolean.parseBoolean(a[0])); return "";
                default: return "no such call";
            }
        } catch (RuntimeException e) {
            return "throws " + e.getClass().getSimpleName();
        }
    }

    private static int number(String[] a, int i) {
        return Integer.parseInt(a[i]);
    }
}
