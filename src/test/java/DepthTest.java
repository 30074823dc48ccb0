import java.nio.charset.StandardCharsets;
import java.nio.file.Files;
import java.nio.file.Path;
import java.util.ArrayList;
import java.util.HashMap;
import java.util.HashSet;
import java.util.List;
import java.util.Map;
import java.util.Set;
import java.util.TreeMap;
import java.util.TreeSet;
import java.util.regex.Matcher;
import java.util.regex.Pattern;

/**
 * Rules 8 and 11 of the language: who calls whom, by names in the source. A call with a receiver may be of any other
 * class that has such a method, so chains are rather found too long than too short. Methods that call one another in a
 * ring count as one.
 */
public final class DepthTest {
    private static final int DEEPEST = 8;
    private static final Pattern CLASS = Pattern.compile("^(?:public |    private static )final class (\\w+) .*");
    private static final Pattern METHOD =
            Pattern.compile("^(?: {4}| {8})(?:(?:public|private|static) )*(?:[\\w\\[\\]]+ )?(\\w+)\\([^;]*\\) \\{$");
    private static final Pattern CALL = Pattern.compile("(\\.|new )?\\b(\\w+)\\(");
    private static final Set<String> NO_CALLS = Set.of("if", "for", "while", "switch", "return");
    private static final Due due = new Due();

    private final Map<String, String> bodies = new TreeMap<>();
    private final Map<String, Set<String>> calls = new TreeMap<>();
    private final Map<String, Set<String>> reached = new HashMap<>();
    private final Map<String, List<String>> longest = new HashMap<>();

    public static void main(String[] args) throws Exception {
        due.promise("the language, rules 8 and 11");
        Path file = Path.of("src/main/java/MachinesDream.java");
        DepthTest graph = new DepthTest();
        graph.readMethods(new String(Files.readAllBytes(file), StandardCharsets.UTF_8));
        graph.readCalls();
        graph.check();
        due.finish("DepthTest");
    }

    private void readMethods(String source) {
        String owner = "";
        String method = "";
        for (String line : source.replaceAll("\"[^\"\n]*\"", "").replaceAll("//[^\n]*", "").split("\n")) {
            Matcher opens = CLASS.matcher(line);
            Matcher begins = METHOD.matcher(line);
            if (opens.matches()) {
                owner = opens.group(1);
                method = "";
            } else if (begins.matches() && !NO_CALLS.contains(begins.group(1))) {
                method = owner + "." + begins.group(1);
                bodies.merge(method, "", String::concat);
            } else if (!method.isEmpty()) {
                bodies.merge(method, line + "\n", String::concat);
            }
        }
    }

    private void readCalls() {
        for (String method : bodies.keySet()) {
            Set<String> found = new TreeSet<>();
            String owner = method.substring(0, method.indexOf('.'));
            Matcher call = CALL.matcher(bodies.get(method));
            while (call.find()) {
                String name = call.group(2);
                if (call.group(1) == null) {
                    String own = owner + "." + name;
                    String outer = "MachinesDream." + name;
                    found.add(bodies.containsKey(own) ? own : bodies.containsKey(outer) ? outer : "");
                } else if (call.group(1).equals("new ")) {
                    found.add(bodies.containsKey(name + "." + name) ? name + "." + name : "");
                } else {
                    addOthers(found, owner, name);
                }
            }
            found.remove("");
            calls.put(method, found);
        }
    }

    private void addOthers(Set<String> found, String owner, String name) {
        for (String other : bodies.keySet()) {
            if (other.endsWith("." + name) && !other.startsWith(owner + ".")) {
                found.add(other);
            }
        }
    }

    /** All that a method comes to, itself too if it comes back. */
    private Set<String> reach(String method) {
        Set<String> all = reached.get(method);
        if (all == null) {
            all = new HashSet<>();
            List<String> open = new ArrayList<>(calls.get(method));
            while (!open.isEmpty()) {
                String next = open.remove(open.size() - 1);
                if (all.add(next)) {
                    open.addAll(calls.get(next));
                }
            }
            reached.put(method, all);
        }
        return all;
    }

    private boolean oneRing(String a, String b) {
        return a.equals(b) || reach(a).contains(b) && reach(b).contains(a);
    }

    private List<String> chain(String method) {
        List<String> best = longest.get(method);
        if (best != null) {
            return best;
        }
        best = List.of();
        for (String member : bodies.keySet()) {
            if (oneRing(method, member)) {
                for (String called : calls.get(member)) {
                    if (!oneRing(method, called) && chain(called).size() > best.size()) {
                        best = chain(called);
                    }
                }
            }
        }
        List<String> whole = new ArrayList<>(List.of(method));
        whole.addAll(best);
        longest.put(method, whole);
        return whole;
    }

    private void check() {
        due.yes("methods were found", bodies.size() > 150);
        due.yes("calls were found", calls.get("MachinesDream.text").contains("Reader.read"));
        for (String method : bodies.keySet()) {
            boolean recursive = reach(method).contains(method);
            due.yes(method + " calls itself outside the reader", !recursive || method.startsWith("Reader.read"));
            due.yes("eight deep at most: " + chain(method), chain(method).size() <= DEEPEST);
        }
    }
}
