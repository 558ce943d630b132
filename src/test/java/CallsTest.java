import java.nio.charset.StandardCharsets;
import java.nio.file.Files;
import java.nio.file.Path;
import java.util.HashMap;
import java.util.HashSet;
import java.util.LinkedHashMap;
import java.util.Map;
import java.util.Set;
import java.util.regex.Matcher;
import java.util.regex.Pattern;

/**
 * What LANGUAGE.md rules of calls (8, 11): only private methods go round, one that calls itself is static, and calls
 * that are no recursion go eight deep at most. A call on an object counts for every class that has such a method.
 */
public final class CallsTest {
    private static final Path SOURCE = Path.of("src/main/java/ToldByWitnesses.java");
    private static final String OUTER = "ToldByWitnesses";
    private static final int MOST_DEEP = 8;
    private static final Pattern CLASS = Pattern.compile(" {4}private static final class (\\w+) \\{");
    private static final Pattern METHOD = Pattern.compile("( {4}| {8})(\\w[\\w\\[\\] ]* )?(\\w+)\\([^;]*\\) \\{");
    private static final Pattern CALL = Pattern.compile("(?:(\\w+)\\.)?\\b(\\w+)\\(");

    /** A method: how it is told, and which others it calls. */
    private static final class Told {
        String told = "";
        final StringBuilder body = new StringBuilder();
        final Set<String> calls = new HashSet<>();
    }

    private final Map<String, Told> methods = new LinkedHashMap<>();
    private final Map<String, Set<String>> reached = new HashMap<>();
    private final Map<String, Integer> depths = new HashMap<>();
    private int wrong;

    public static void main(String[] args) throws Exception {
        CallsTest test = new CallsTest();
        test.read(Files.readString(SOURCE, StandardCharsets.ISO_8859_1));
        test.link();
        test.ask();
        System.out.println("CallsTest: " + test.methods.size() + " methods, " + test.wrong + " wrong");
        if (test.wrong != 0) {
            System.exit(1);
        }
    }

    private void due(String what, boolean so) {
        if (!so) {
            wrong++;
            System.out.println(what);
        }
    }

    private void read(String source) {
        String code = source.replaceAll("(?s)/\\*.*?\\*/", "").replaceAll("//[^\n]*", "");
        String inside = OUTER;
        Told open = null;
        String end = "";
        for (String line : code.split("\n")) {
            Matcher c = CLASS.matcher(line);
            Matcher m = METHOD.matcher(line);
            if (open != null) {
                open.body.append(line).append('\n');
                open = line.equals(end) ? null : open;
            } else if (c.matches()) {
                inside = c.group(1);
            } else if (line.equals("    }")) {
                inside = OUTER;
            } else if (m.matches() && m.group(1).length() == (inside.equals(OUTER) ? 4 : 8)) {
                open = methods.computeIfAbsent(inside + "." + m.group(3), k -> new Told());
                open.told += m.group(2);
                end = m.group(1) + "}";
            }
        }
    }

    private void link() {
        for (Map.Entry<String, Told> e : methods.entrySet()) {
            String inside = e.getKey().substring(0, e.getKey().indexOf('.'));
            Matcher m = CALL.matcher(e.getValue().body);
            while (m.find()) {
                e.getValue().calls.addAll(called(inside, m.group(1), m.group(2)));
            }
        }
    }

    private Set<String> called(String inside, String on, String name) {
        if (on == null) {
            for (String owner : new String[] {inside, OUTER, name}) {
                if (methods.containsKey(owner + "." + name)) {
                    return Set.of(owner + "." + name);
                }
            }
            return Set.of();
        }
        if (methods.containsKey(on + "." + name)) {
            return Set.of(on + "." + name);
        }
        Set<String> all = new HashSet<>(methods.keySet());
        all.removeIf(k -> !k.endsWith("." + name));
        return all;
    }

    private void ask() {
        due("methods were found", methods.size() > 26);
        for (String name : methods.keySet()) {
            reached.put(name, reachedFrom(name));
        }
        for (Map.Entry<String, Told> e : methods.entrySet()) {
            String name = e.getKey();
            String told = e.getValue().told;
            due(name + " goes round and isn't private", !reached.get(name).contains(name) || told.contains("private"));
            due(name + " calls itself and isn't static", !e.getValue().calls.contains(name) || told.contains("static"));
            due(name + " goes " + depth(name) + " deep", depth(name) <= MOST_DEEP);
        }
    }

    private Set<String> reachedFrom(String name) {
        Set<String> all = new HashSet<>(methods.get(name).calls);
        for (int before = -1; before != all.size(); ) {
            before = all.size();
            for (String other : Set.copyOf(all)) {
                all.addAll(methods.get(other).calls);
            }
        }
        return all;
    }

    /** Methods that go round count once, together. */
    private int depth(String name) {
        if (!depths.containsKey(name)) {
            Set<String> round = new HashSet<>(Set.of(name));
            for (String other : reached.get(name)) {
                if (reached.get(other).contains(name)) {
                    round.add(other);
                }
            }
            int deepest = 0;
            for (String one : round) {
                for (String next : methods.get(one).calls) {
                    deepest = round.contains(next) ? deepest : Math.max(deepest, depth(next));
                }
            }
            depths.put(name, deepest + 1);
        }
        return depths.get(name);
    }
}
