import java.io.File;
import java.io.PrintWriter;
import java.io.StringWriter;
import java.nio.file.Path;
import java.util.ArrayList;
import java.util.HashMap;
import java.util.LinkedHashSet;
import java.util.List;
import java.util.Map;
import java.util.Set;
import java.util.TreeMap;
import java.util.TreeSet;
import java.util.regex.Matcher;
import java.util.regex.Pattern;
import java.util.spi.ToolProvider;

/** Those rules of LANGUAGE.md that can be seen in the compiled class, as javap tells it. */
final class RulesTest {
    private static final Pattern CLASS = Pattern.compile("(?:public |final )*class (\\S+) \\{");
    private static final Pattern METHOD = Pattern.compile("  (?:[\\w$.\\[\\]]+ )*([\\w$]+)\\(.*;");
    private static final Pattern STEP = Pattern.compile(" +\\d+: (\\w+)(?: .*)?");
    private static final Pattern CALLED = Pattern.compile("Method ([^:]+):");

    // The instructions of each method, by its class and its name.
    private final Map<String, List<String>> methods = new TreeMap<>();
    private final Map<String, Integer> depths = new HashMap<>();

    public static void main(String[] args) throws Exception {
        RulesTest test = new RulesTest();
        test.tell();
        test.onlyGuardsUseIndexes();
        test.divisorsAreWrittenOut();
        test.onlyConstructorsMakeObjects();
        test.callsGoAtMostEightDeep();
        Checks.finish();
    }

    private void tell() throws Exception {
        Path made = Path.of(QuarterMaps.class.getProtectionDomain().getCodeSource().getLocation().toURI());
        List<String> wanted = new ArrayList<>(List.of("-c", "-p"));
        for (File file : made.toFile().listFiles()) {
            if (file.getName().matches("QuarterMaps(\\$\\w+)?\\.class")) {
                wanted.add(file.getPath());
            }
        }
        StringWriter out = new StringWriter();
        ToolProvider javap = ToolProvider.findFirst("javap").orElseThrow();
        javap.run(new PrintWriter(out), new PrintWriter(System.err), wanted.toArray(new String[0]));
        String type = "";
        List<String> steps = new ArrayList<>();
        for (String line : out.toString().split("\n")) {
            Matcher head = CLASS.matcher(line);
            Matcher method = METHOD.matcher(line.replaceAll(" throws .*", ";"));
            if (head.matches()) {
                type = head.group(1);
            } else if (method.matches()) {
                String name = method.group(1).equals(type) ? "<init>" : method.group(1);
                steps = methods.computeIfAbsent(type + "." + name, key -> new ArrayList<>());
            } else if (STEP.matcher(line).matches()) {
                steps.add(line.trim());
            }
        }
        Checks.due("methods that javap tells", true, () -> methods.size() > 100 && methods.containsKey("QuarterMaps.load"));
    }

    private static String word(String step) {
        return step.split("\\s+")[1];
    }

    private Set<String> methodsWith(String pattern) {
        Set<String> found = new TreeSet<>();
        methods.forEach((name, steps) -> {
            if (steps.stream().anyMatch(step -> step.matches("\\d+: " + pattern))) {
                found.add(name.replace("QuarterMaps$", ""));
            }
        });
        return found;
    }

    /** Rule 7: these test an index before they use it. */
    private void onlyGuardsUseIndexes() {
        Checks.due("what reads an element", "[Bits.cell, Bytes.get, Row.get]", () -> methodsWith("[abcdfils]aload"));
        Checks.due("what sets an element", "[Bits.put, Bytes.add, Row.set, Row.setAll]", () -> methodsWith("[abcdfils]astore"));
        Checks.due("what copies elements", "[Bits.copyCells, Bits.copyRow]", () -> methodsWith(".*arraycopy.*"));
        Checks.due("casts", "[]", () -> methodsWith("checkcast.*"));
        Checks.due("lambdas and texts that + joins", "[]", () -> methodsWith("invokedynamic.*"));
        Checks.due("static fields that change", "[]", () -> methodsWith("putstatic.*"));
    }

    /** Rule 7: a whole number is divided by a constant alone. */
    private void divisorsAreWrittenOut() {
        methods.forEach((name, steps) -> {
            for (int i = 1; i < steps.size(); i++) {
                String divisor = steps.get(i - 1);
                if (word(steps.get(i)).matches("[il](div|rem)")) {
                    Checks.due("divisor in " + name + ": " + divisor, true,
                        () -> divisor.matches("\\d+: (iconst_[1-5]|bipush +[1-9]\\d*)"));
                }
            }
        });
        Checks.due("other divisions", "[QuarterMaps.meanBits, QuarterMaps.share]", () -> methodsWith("[fd](div|rem)"));
    }

    /** Rules 6 and 12: calls make exceptions alone, and constructors throw nothing. */
    private void onlyConstructorsMakeObjects() {
        methods.forEach((name, steps) -> {
            boolean constructor = name.endsWith("<init>");
            for (String step : steps) {
                if (word(step).matches("new|newarray|anewarray|multianewarray") && !constructor) {
                    Checks.due(name + " makes " + step, true,
                        () -> step.matches(".*class java/lang/Illegal(State|Argument)Exception|.*class java/lang/IndexOutOfBoundsException"));
                }
                if (constructor) {
                    Checks.due(name + " throws", false, () -> word(step).equals("athrow"));
                }
            }
        });
    }

    /** Rules 8 and 11: what a method calls, it and the library's own included; one calls itself. */
    private void callsGoAtMostEightDeep() {
        for (String name : methods.keySet()) {
            int depth = depthOf(name, new LinkedHashSet<>());
            Checks.due("depth of " + name + " is at most eight: " + depth, true, () -> depth <= 8);
        }
    }

    private int depthOf(String name, Set<String> open) {
        if (depths.containsKey(name)) {
            return depths.get(name);
        }
        int deepest = 0;
        open.add(name);
        for (String called : calledBy(name)) {
            if (open.contains(called)) {
                Checks.due("what " + name + " calls again", "QuarterMaps$Tree.spellBlock QuarterMaps$Tree.spellBlock",
                    () -> name + " " + called);
            } else {
                deepest = Math.max(deepest, depthOf(called, open));
            }
        }
        open.remove(name);
        depths.put(name, deepest + 1);
        return deepest + 1;
    }

    private Set<String> calledBy(String name) {
        Set<String> called = new TreeSet<>();
        for (String step : methods.getOrDefault(name, List.of())) {
            Matcher call = CALLED.matcher(step);
            if (call.find()) {
                String goal = call.group(1).replace("\"", "");
                called.add(goal.contains(".") ? goal : name.substring(0, name.indexOf('.') + 1) + goal);
            }
        }
        return called;
    }
}
