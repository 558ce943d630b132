import java.lang.reflect.Method;
import java.nio.charset.StandardCharsets;
import java.nio.file.Files;
import java.nio.file.Path;
import java.util.regex.Matcher;
import java.util.regex.Pattern;

/** The calls in README.md, one behind the other, answer what stands behind them there. */
public final class ReadmeTest {
    private static final String NEW = "ToldByWitnesses x = new ToldByWitnesses();";
    private static final Pattern FEED = Pattern.compile("for \\(char c : \"([^\"]*)\"\\.toCharArray\\(\\)\\) x\\.feed\\(c\\);");
    private static final Pattern CALL = Pattern.compile("x\\.(\\w+)\\(([-0-9, ]*)\\); *// (-?\\d+)(?:: .*)?");
    private static ToldByWitnesses x;
    private static int asked, wrong;

    public static void main(String[] args) throws Exception {
        boolean code = false;
        for (String line : Files.readAllLines(Path.of("README.md"), StandardCharsets.UTF_8)) {
            if (line.startsWith("```")) {
                code = line.equals("```java");
            } else if (code) {
                read(line);
            }
        }
        due("calls in README.md are many", asked > 26 ? 1 : 0, 1);
        System.out.println("ReadmeTest: " + asked + " calls, " + wrong + " wrong");
        if (wrong != 0) {
            System.exit(1);
        }
    }

    private static void due(String what, long got, long want) {
        if (got != want) {
            wrong++;
            System.out.println(what + " answered " + got + ", due is " + want);
        }
    }

    private static void read(String line) throws Exception {
        Matcher feed = FEED.matcher(line);
        Matcher call = CALL.matcher(line);
        if (line.equals(NEW)) {
            x = new ToldByWitnesses();
        } else if (feed.matches()) {
            for (char c : feed.group(1).toCharArray()) {
                x.feed(c);
            }
        } else if (call.matches()) {
            asked++;
            due(line, answer(call.group(1), call.group(2)), Long.parseLong(call.group(3)));
        } else {
            due("a line that is no call: " + line, 0, 1);
        }
    }

    private static long answer(String name, String said) throws Exception {
        String[] all = said.isEmpty() ? new String[0] : said.split(", ");
        Class<?>[] types = new Class<?>[all.length];
        Object[] numbers = new Object[all.length];
        for (int i = 0; i < all.length; i++) {
            types[i] = int.class;
            numbers[i] = Integer.parseInt(all[i]);
        }
        Method m = ToldByWitnesses.class.getMethod(name, types);
        return ((Number) m.invoke(x, numbers)).longValue();
    }
}
