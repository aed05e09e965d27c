import java.io.IOException;
import java.nio.file.Files;
import java.nio.file.Path;
import java.util.ArrayList;
import java.util.LinkedHashMap;
import java.util.List;
import java.util.Map;
import java.util.Set;
import java.util.TreeSet;
import java.util.regex.Matcher;
import java.util.regex.Pattern;

/**
 * Which method calls which, read from the file, against two rules of LANGUAGE.md:
 * 8 "a private static method that calls itself, private methods that call one another",
 * 11 "calls that are no recursion go at most eight deep".
 */
public final class RuleTests {
    private static final int MOST_DEEP = 8;
    private static final String OUTER = "PersistentTrove";
    private static final Pattern CLASS = Pattern.compile("^(?: {4})?(?:public|private static) final class (\\w+) \\{$");
    private static final Pattern METHOD = Pattern.compile("^( {4}| {8})((?:public |private |static )*)(?:[\\w\\[\\]]+ )?(\\w+)\\(.*");
    private static final Pattern CALL = Pattern.compile("(\\w+\\.|\\)\\.|\\]\\.|new )?\\b(\\w+)\\(");

    private static final class Method {
        final String home;
        final String name;
        final boolean isPrivate;
        final StringBuilder body = new StringBuilder();
        final Set<String> calls = new TreeSet<>();

        Method(String home, String name, boolean isPrivate) {
            this.home = home;
            this.name = name;
            this.isPrivate = isPrivate;
        }
    }

    private static final Map<String, Method> METHODS = new LinkedHashMap<>();
    private static final Map<String, Set<String>> REACHED = new LinkedHashMap<>();
    private static int wrong;

    public static void main(String[] args) throws IOException {
        read(Files.readAllLines(Path.of(System.getProperty("source"))));
        due(METHODS.size() > 150, "only " + METHODS.size() + " methods were found");
        for (Method method : METHODS.values()) {
            resolve(method);
        }
        for (String name : METHODS.keySet()) {
            Set<String> reached = new TreeSet<>();
            reach(name, reached);
            REACHED.put(name, reached);
        }
        recursionIsPrivate();
        callsAreShallow();
        if (wrong > 0) {
            System.exit(1);
        }
    }

    private static void due(boolean fine, String text) {
        if (!fine) {
            wrong++;
            System.out.println(text);
        }
    }

    // ---------------------------------------------------------------- reading

    private static void read(List<String> lines) {
        String home = OUTER;
        Method current = null;
        String end = "";
        for (String line : lines) {
            Matcher header = CLASS.matcher(line);
            Matcher method = METHOD.matcher(line);
            if (header.matches()) {
                home = header.group(1);
            } else if (current == null && method.matches() && !line.endsWith(";")) {
                String name = method.group(3);
                current = new Method(home, name, method.group(2).contains("private"));
                due(METHODS.put(home + "." + name, current) == null, "two methods " + home + "." + name);
                end = method.group(1) + "}";
            } else if (current != null && line.equals(end)) {
                current = null;
            } else if (current != null && !line.trim().startsWith("//")) {
                current.body.append(line.trim()).append(' ');
            }
        }
    }

    private static void resolve(Method method) {
        Matcher call = CALL.matcher(method.body);
        while (call.find()) {
            String before = call.group(1) == null ? "" : call.group(1);
            String name = call.group(2);
            if (before.equals("new ")) {
                addIfThere(method, name, name);
            } else if (before.isEmpty()) {
                addIfThere(method, method.home, name);
            } else if (Character.isUpperCase(before.charAt(0))) {
                addIfThere(method, before.substring(0, before.length() - 1), name);
            } else {
                addOfAnyObject(method, name);
            }
        }
    }

    private static void addIfThere(Method method, String home, String name) {
        if (METHODS.containsKey(home + "." + name)) {
            method.calls.add(home + "." + name);
        }
    }

    private static void addOfAnyObject(Method method, String name) {
        for (Method other : METHODS.values()) {
            if (other.name.equals(name)) {
                method.calls.add(other.home + "." + name);
            }
        }
    }

    private static void reach(String from, Set<String> reached) {
        for (String next : METHODS.get(from).calls) {
            if (reached.add(next)) {
                reach(next, reached);
            }
        }
    }

    // ---------------------------------------------------------------- rules

    private static void recursionIsPrivate() {
        int found = 0;
        for (String name : METHODS.keySet()) {
            if (REACHED.get(name).contains(name)) {
                found++;
                due(METHODS.get(name).isPrivate, "rule 8: " + name + " calls itself, but is not private");
            }
        }
        due(found > 20, "only " + found + " methods were found that call themselves");
    }

    private static void callsAreShallow() {
        Map<String, List<String>> longest = new LinkedHashMap<>();
        for (String name : METHODS.keySet()) {
            List<String> path = longestFrom(name, longest);
            due(path.size() <= MOST_DEEP, "rule 11: " + path);
        }
    }

    /** A way back to where one came from is a recursion, and not gone. */
    private static List<String> longestFrom(String name, Map<String, List<String>> longest) {
        if (longest.containsKey(name)) {
            return longest.get(name);
        }
        List<String> best = new ArrayList<>();
        Set<String> together = new TreeSet<>();
        together.add(name);
        for (String other : REACHED.get(name)) {
            if (REACHED.get(other).contains(name)) {
                together.add(other);
            }
        }
        for (String one : together) {
            for (String next : METHODS.get(one).calls) {
                if (!together.contains(next)) {
                    List<String> path = longestFrom(next, longest);
                    best = path.size() > best.size() ? path : best;
                }
            }
        }
        List<String> whole = new ArrayList<>();
        whole.add(name);
        whole.addAll(best);
        longest.put(name, whole);
        return whole;
    }
}
