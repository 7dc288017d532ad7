import java.util.ArrayList;
import java.util.HashMap;
import java.util.List;
import java.util.Map;
import java.util.Set;
import java.util.TreeSet;
import java.util.regex.Matcher;
import java.util.regex.Pattern;

/** Which methods of the program's text call which, by their names: rules 8 and 11 of LANGUAGE.md. */
final class CallGraph {
    private static final int DEEPEST = 8;

    /** A method or constructor with its text, from its head to its last line. */
    static final class Body {
        final String name;
        final String text;

        Body(String name, String text) {
            this.name = name;
            this.text = text;
        }
    }

    private final Map<String, Set<String>> calls = new HashMap<>();

    CallGraph(String code) {
        List<Body> bodies = bodiesOf(code);
        for (Body body : bodies) {
            calls.put(body.name, new TreeSet<>());
        }
        for (Body body : bodies) {
            String inside = body.text.substring(body.text.indexOf('{'));
            Matcher call = Pattern.compile("\\b(\\w+)\\(").matcher(inside);
            while (call.find()) {
                if (calls.containsKey(call.group(1))) {
                    calls.get(body.name).add(call.group(1));
                }
            }
        }
    }

    /** Those of the class begin with 4 spaces, those of the classes inside with 8. */
    static List<Body> bodiesOf(String code) {
        List<Body> bodies = new ArrayList<>();
        String[] lines = code.split("\n");
        for (int i = 0; i < lines.length; i++) {
            Matcher head = Pattern.compile("^( {4}| {8})(?:\\w[\\w\\[\\]]* )*(\\w+)\\(.*\\) \\{$").matcher(lines[i]);
            if (head.find() && !Set.of("if", "for", "switch").contains(head.group(2))) {
                StringBuilder text = new StringBuilder();
                int end = i;
                while (end < lines.length && !lines[end].equals(head.group(1) + "}")) {
                    text.append(lines[end]).append('\n');
                    end++;
                }
                bodies.add(new Body(head.group(2), text.append(head.group(1)).append("}").toString()));
            }
        }
        return bodies;
    }

    void check(Check check) {
        check.due("methods are found", calls.size() > 50 && calls.containsKey("minimalPlan") ? 1 : 0, 1);
        check.due("calls are found", calls.get("part").contains("sumOverOrders") ? 1 : 0, 1);
        for (String name : calls.keySet()) {
            check.due(name + " goes at most " + DEEPEST + " deep", depthOf(name, 0) <= DEEPEST ? 1 : 0, 1);
        }
    }

    /** Above the deepest that is allowed, also where methods call one another in a ring. */
    private int depthOf(String name, int above) {
        if (above > DEEPEST) {
            return 1;
        }
        int deepest = 0;
        for (String called : calls.get(name)) {
            deepest = Math.max(deepest, depthOf(called, above + 1));
        }
        return 1 + deepest;
    }
}
