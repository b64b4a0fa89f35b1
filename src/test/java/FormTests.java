import java.io.IOException;
import java.nio.file.Files;
import java.nio.file.Path;
import java.util.ArrayList;
import java.util.List;
import java.util.Map;
import java.util.Set;
import java.util.TreeMap;
import java.util.TreeSet;
import java.util.regex.Matcher;
import java.util.regex.Pattern;

/** The rules of ../shared/LANGUAGE.md that speak of methods, as far as the lines of the program show them. */
final class FormTests {
    private static final Set<String> LIBRARY = Set.of("System.arraycopy", "Integer.bitCount");
    private static final int MOST_LINES = 60;
    private static final int DEEPEST = 8;
    private static final Pattern CLASS = Pattern.compile(" *(?:public|private) (?:static )?final class (\\w+) \\{");
    private static final Pattern METHOD = Pattern.compile(" *(?:public|private) (?:[\\w\\[\\]]+ )?(\\w+)\\(.*\\) \\{");
    private static final Pattern FIELD = Pattern.compile(" *(?:public|private) (?:static )?(?:final )?[^(]*(?:= .*)?;");
    private static final Pattern CALL = Pattern.compile("\\b(\\w+)\\(");
    private static final Pattern OF_CLASS = Pattern.compile("\\b([A-Z][a-z]\\w*)\\.(\\w+)");

    private final List<String> lines = new ArrayList<>();
    private final Set<String> classes = new TreeSet<>();
    /** The lines of each method and constructor by its name, from the head to the last one. */
    private final Map<String, List<String>> methods = new TreeMap<>();
    private final List<String> outside = new ArrayList<>();

    private FormTests() {
    }

    static void run(Path program) throws IOException {
        FormTests tests = new FormTests();
        tests.readCode(Files.readAllLines(program));
        tests.split();
        tests.found();
        tests.lengths();
        tests.depths();
        tests.library();
        tests.objectsMade();
        tests.loops();
    }

    private void readCode(List<String> all) {
        boolean comment = false;
        for (String line : all) {
            comment |= line.strip().startsWith("/*");
            if (!comment && !line.isBlank() && !line.strip().startsWith("//")) {
                lines.add(line);
            }
            comment &= !line.contains("*/");
        }
    }

    /** A method ends with the brace that stands as far right as its head begins. */
    private void split() {
        int i = 0;
        while (i < lines.size()) {
            Matcher isClass = CLASS.matcher(lines.get(i));
            Matcher isMethod = METHOD.matcher(lines.get(i));
            if (isClass.matches()) {
                classes.add(isClass.group(1));
            }
            if (isMethod.matches()) {
                int end = endOf(i);
                String name = isMethod.group(1);
                Check.isTrue("the name " + name + " is of one method alone", !methods.containsKey(name));
                methods.put(name, lines.subList(i, end + 1));
                i = end;
            } else {
                outside.add(lines.get(i));
            }
            i++;
        }
    }

    private int endOf(int head) {
        String line = lines.get(head);
        String brace = " ".repeat(line.length() - line.stripLeading().length()) + "}";
        int end = head;
        while (end < lines.size() - 1 && !lines.get(end).equals(brace)) {
            end++;
        }
        return end;
    }

    /** What is not within a method is a field or a class, so that no method is left out of the tests below. */
    private void found() {
        for (String line : outside) {
            boolean known = CLASS.matcher(line).matches() || FIELD.matcher(line).matches() || line.strip().equals("}");
            Check.isTrue("a field, a class or its end: " + line, known);
        }
        Check.isTrue("the classes are found", classes.contains("PledgeTips") && classes.size() > 1);
        Check.isTrue("rule 11: some twelve classes", classes.size() <= 12);
        Check.isTrue("the calls are found", methods.containsKey("callIn") && methods.containsKey("play"));
    }

    private void lengths() {
        for (Map.Entry<String, List<String>> method : methods.entrySet()) {
            int length = method.getValue().size();
            Check.isTrue("rule 11: " + length + " lines of " + method.getKey(), length <= MOST_LINES);
        }
    }

    /** Names are of one method each, so that the names that a method calls are the methods that it calls. */
    private void depths() {
        for (String name : methods.keySet()) {
            int depth = depthOf(name, new ArrayList<>());
            Check.isTrue("rule 11: " + name + " goes " + depth + " calls deep", depth <= DEEPEST);
        }
    }

    private int depthOf(String name, List<String> callers) {
        if (callers.contains(name)) {
            Check.isTrue("rule 8: " + name + " calls itself by way of " + callers, false);
            return 1;
        }
        callers.add(name);
        int deepest = 0;
        for (String line : methods.get(name).subList(1, methods.get(name).size())) {
            Matcher call = CALL.matcher(line);
            while (call.find()) {
                if (methods.containsKey(call.group(1))) {
                    deepest = Math.max(deepest, depthOf(call.group(1), callers));
                }
            }
        }
        callers.remove(callers.size() - 1);
        return 1 + deepest;
    }

    private void library() {
        for (String line : lines) {
            Matcher use = OF_CLASS.matcher(line);
            while (use.find()) {
                boolean known = classes.contains(use.group(1)) || LIBRARY.contains(use.group());
                Check.isTrue("rule 4: " + use.group() + " in " + line, known);
            }
        }
    }

    /** The room is one for all calls of a run: fields and constructors make objects and arrays, and no call does. */
    private void objectsMade() {
        for (Map.Entry<String, List<String>> method : methods.entrySet()) {
            for (String line : method.getValue()) {
                boolean made = line.matches(".*\\bnew\\b.*");
                Check.isTrue("rule 12: made by a call: " + line, !made || classes.contains(method.getKey()));
            }
        }
    }

    /** Rule 9: a loop counts up to a bound: each head compares by less, and none of them is left open. */
    private void loops() {
        for (String line : lines) {
            String code = line.strip();
            if (code.startsWith("for (")) {
                boolean counts = code.matches("for \\(int \\w+ = [^;]+; \\w+ <=? [^;]+; \\w+\\+\\+\\) \\{");
                Check.isTrue("rule 9: " + code, counts);
            } else if (code.startsWith("while (")) {
                Check.isTrue("rule 9: " + code, code.matches("while \\(\\w+ < [^)]+.*\\) \\{"));
            }
            Check.isTrue("rule 9: " + code, !code.startsWith("do "));
        }
    }
}
