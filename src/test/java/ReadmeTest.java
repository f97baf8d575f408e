import java.lang.reflect.Method;
import java.lang.reflect.Modifier;
import java.nio.file.Files;
import java.nio.file.Path;
import java.util.regex.Matcher;
import java.util.regex.Pattern;

/** README.md says how to use the class: its calls answer what stands behind them, and no call of the face is left out. Run in the project's directory. */
public final class ReadmeTest {
    private static final Pattern CALL = Pattern.compile("^checker\\.(\\w+)\\((.*)\\);\\s+// (-?\\d+)(?:\\W.*)?$");

    private static Object answer(RankChecker x, String name, String words) throws Exception {
        String[] each = words.isEmpty() ? new String[0] : words.split(", ");
        Object[] args = new Object[each.length];
        Class<?>[] kinds = new Class<?>[each.length];
        for (int i = 0; i < each.length; i++) {
            args[i] = Integer.decode(each[i]);
            kinds[i] = int.class;
        }
        return RankChecker.class.getMethod(name, kinds).invoke(x, args);
    }

    public static void main(String[] args) throws Exception {
        String all = Files.readString(Path.of("README.md"));
        RankChecker x = new RankChecker();
        int calls = 0;
        for (String line : all.split("\n")) {
            Matcher m = CALL.matcher(line);
            Calls.due("'" + line + "' is read as a call", line.startsWith("checker.") ? 1 : 0, m.matches() ? 1 : 0);
            if (!m.matches()) continue;
            calls++;
            Calls.due("README.md: " + line, "" + answer(x, m.group(1), m.group(2)), m.group(3));
        }
        Calls.due("README.md has calls", calls > 10 ? 1 : 0, 1);
        for (Method m : RankChecker.class.getDeclaredMethods()) {
            if (Modifier.isPublic(m.getModifiers())) Calls.due("README.md tells of " + m.getName(), all.contains("`" + m.getName()) ? 1 : 0, 1);
        }
        Calls.ends("ReadmeTest");
    }
}
