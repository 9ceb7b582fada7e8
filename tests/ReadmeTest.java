import java.lang.reflect.Method;
import java.lang.reflect.Modifier;
import java.nio.file.Files;
import java.nio.file.Path;
import java.util.regex.Matcher;
import java.util.regex.Pattern;

/** The README: its examples answer what stands behind them, and it tells of every call, code and number asked for. */
public final class ReadmeTest implements Codes {
    // A line of an example: house.pass(9);   // 1: one fuse blew
    private static final Pattern EXAMPLE = Pattern.compile("house\\.(\\w+)\\(([^)]*)\\);\\s*// (-?\\d+)");
    private static final Pattern PUTS = Pattern.compile("0x([0-9a-f]+)L");

    public static void main(String[] args) throws Exception {
        String text = Files.readString(Path.of("README.md"));
        examplesHold(text);
        everyCallIsToldOf(text);
        codesAreToldOf(text);
        Due.end();
    }

    /** Each block of Java is a new object's. */
    private static void examplesHold(String text) throws Exception {
        String[] blocks = text.split("```");
        int examples = 0;
        for (String block : blocks) {
            if (!block.startsWith("java\n")) continue;
            FuseBoards house = new FuseBoards();
            for (String line : block.split("\n")) {
                Matcher m = EXAMPLE.matcher(line);
                if (!m.find()) continue;
                examples++;
                Due.is("README: " + line, call(house, m.group(1), m.group(2)), Integer.parseInt(m.group(3)));
            }
        }
        Due.isTrue("README: examples: " + examples, examples >= 15);
    }

    private static int call(FuseBoards house, String name, String told) throws Exception {
        String[] arguments = told.isEmpty() ? new String[0] : told.split(",\\s*");
        for (Method m : FuseBoards.class.getMethods()) {
            if (!m.getName().equals(name) || m.getParameterCount() != arguments.length) continue;
            Object[] values = new Object[arguments.length];
            for (int i = 0; i < values.length; i++) values[i] = value(arguments[i]);
            return (Integer) m.invoke(house, values);
        }
        Due.isTrue("README: there is " + name + "(" + told + ")", false);
        return 0;
    }

    private static Object value(String told) throws Exception {
        if (told.startsWith("FuseBoards.")) return FuseBoards.class.getField(told.substring(11)).get(null);
        Matcher puts = PUTS.matcher(told);
        if (puts.matches()) return Long.parseLong(puts.group(1), 16);
        return Integer.valueOf(told);
    }

    private static void everyCallIsToldOf(String text) {
        for (Method m : FuseBoards.class.getDeclaredMethods()) {
            if (!Modifier.isPublic(m.getModifiers())) continue;
            boolean told = Pattern.compile("\\| `" + m.getName() + "\\([^)|]*\\)` \\|").matcher(text).find();
            Due.isTrue("README: tells of " + m.getName(), told);
        }
        Due.isTrue("README: 512 calls", text.contains("512 calls"));
    }

    private static void codesAreToldOf(String text) {
        String[] names = {"NO_SUCH", "BAD_VALUE", "BAD_TEXT", "TOO_MANY", "NOT_POSSIBLE", "NONE"};
        for (int i = 0; i < names.length; i++) {
            boolean told = text.contains("| `" + names[i] + "` | " + (-1 - i) + " |");
            Due.isTrue("README: tells of " + names[i], told);
        }
    }
}
