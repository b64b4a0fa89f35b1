import java.io.IOException;
import java.lang.reflect.Constructor;
import java.lang.reflect.Field;
import java.lang.reflect.Method;
import java.lang.reflect.Modifier;
import java.nio.file.Files;
import java.nio.file.Path;
import java.util.ArrayList;
import java.util.List;
import java.util.TreeSet;

/** What can be tested of ../shared/LANGUAGE.md: the face by reflection, the rest by the words of the file. */
final class RuleTests {
    private static final String FACE = "callIn(int) clearText() count(int) fault(int) orderAt(int,int) person(int)"
            + " personOf(int,int) play() pledge(int,int,int,int,int) pledgeOf(int,int) project(int)"
            + " projectOf(int,int) setOf(int,int) standing(int) type(int) undo() withdraw(int)";
    private static final String[] FORBIDDEN_WORDS = {"throw", "throws", "try", "catch", "finally", "synchronized",
        "assert", "import", "package", "protected", "double", "float", "Object", "System.out", "Exception", "Exact", "MAX_VALUE"};
    private static final String[] FORBIDDEN_SIGNS = {"->", "::", "\"", "@"};
    private static final int[] EXTREMES = {Integer.MIN_VALUE, Integer.MIN_VALUE + 1, -4096, -33, -32, -31, -2, -1, 0, 1, 2, 3,
        4, 5, 7, 8, 9, 10, 11, 12, 13, 31, 32, 33, 63, 64, 80, 999, 1000, 4095, 4096, 65535, 65536, Integer.MAX_VALUE};

    private RuleTests() {
    }

    static void run(Path program) throws IOException {
        face();
        for (Class<?> inner : classes()) {
            members(inner);
        }
        source(Files.readAllLines(program));
        for (int number : EXTREMES) {
            extremes(new PledgeTips(), number);
            extremes(Scenes.full(), number);
        }
    }

    private static List<Class<?>> classes() {
        List<Class<?>> classes = new ArrayList<>(List.of(PledgeTips.class.getDeclaredClasses()));
        classes.add(PledgeTips.class);
        return classes;
    }

    private static void face() {
        int modifiers = PledgeTips.class.getModifiers();
        Check.isTrue("rule 1: public and final", Modifier.isPublic(modifiers) && Modifier.isFinal(modifiers));
        Constructor<?>[] constructors = PledgeTips.class.getDeclaredConstructors();
        Check.isTrue("rule 1: one public constructor without arguments", constructors.length == 1
                && Modifier.isPublic(constructors[0].getModifiers()) && constructors[0].getParameterCount() == 0);
        TreeSet<String> methods = new TreeSet<>();
        for (Method method : PledgeTips.class.getDeclaredMethods()) {
            boolean isPublic = Modifier.isPublic(method.getModifiers());
            Check.isTrue("rule 1: " + method, isPublic || Modifier.isPrivate(method.getModifiers()));
            if (isPublic) {
                Check.isTrue("rule 1: int " + method, method.getReturnType() == int.class);
                String text = method.toString();
                methods.add(text.substring(text.indexOf("PledgeTips.") + "PledgeTips.".length()));
            }
        }
        Check.isTrue("rule 1: the methods are " + methods, String.join(" ", methods).equals(FACE));
        int constants = 0;
        for (Field field : PledgeTips.class.getDeclaredFields()) {
            boolean isPublic = Modifier.isPublic(field.getModifiers());
            constants += isPublic ? 1 : 0;
            Check.isTrue("rule 1: " + field, isPublic || Modifier.isPrivate(field.getModifiers()));
        }
        Check.due("rule 1: public constants", constants, 4);
        Check.isTrue("rule 11: some twelve classes", classes().size() <= 12);
    }

    private static void members(Class<?> inner) {
        boolean outer = inner == PledgeTips.class;
        Check.isTrue("rule 2: static " + inner, outer || Modifier.isStatic(inner.getModifiers()));
        Check.isTrue("rule 1: hidden " + inner, outer || !Modifier.isPublic(inner.getModifiers()));
        int fields = 0;
        for (Field field : inner.getDeclaredFields()) {
            boolean isStatic = Modifier.isStatic(field.getModifiers());
            fields += isStatic ? 0 : 1;
            Check.isTrue("rule 5: final " + field, !isStatic || Modifier.isFinal(field.getModifiers()));
            Check.isTrue("rule 5: a number " + field, !isStatic || field.getType().isPrimitive());
        }
        Check.isTrue("rule 11: fields of " + inner, fields <= 20);
        for (Method method : inner.getDeclaredMethods()) {
            Check.isTrue("rule 11: parameters of " + method, method.getParameterCount() <= 7);
            boolean bearsPublicName = (" " + FACE).contains(" " + method.getName() + "(");
            Check.isTrue("rule 1: name of " + method,
                    outer && Modifier.isPublic(method.getModifiers()) || !bearsPublicName);
        }
    }

    private static void source(List<String> lines) {
        boolean comment = false;
        for (String line : lines) {
            Check.isTrue("rule 3: signs of " + line, line.chars().allMatch(sign -> sign >= 32 && sign < 127));
            comment |= line.strip().startsWith("/*");
            String code = comment ? "" : line.replaceAll("//.*", "");
            comment &= !line.contains("*/");
            for (String word : FORBIDDEN_WORDS) {
                Check.isTrue(word + " in " + line, !code.matches(".*\\b" + word.replace(".", "\\.") + "\\b.*"));
            }
            for (String sign : FORBIDDEN_SIGNS) {
                Check.isTrue(sign + " in " + line, !code.contains(sign));
            }
        }
    }

    /** Rule 7: none throws; what is not a number or an error is told by the type of the answer alone. */
    private static void extremes(PledgeTips x, int a) {
        for (int b : EXTREMES) {
            long answers = Math.min(x.pledgeOf(a, b), x.projectOf(a, b));
            answers = Math.min(answers, Math.min(x.personOf(a, b), x.setOf(a, b)));
            answers = Math.min(answers, Math.min(x.orderAt(a, b), x.fault(b)));
            answers = Math.min(answers, Math.min(x.pledge(a, b, 1, 0, 0), x.pledge(0, 0, 1, a, b)));
            answers = Math.min(answers, x.pledge(0, 0, b, 0, a));
            Check.isTrue("rule 7: " + a + ", " + b, answers >= PledgeTips.NOT_FOUND);
        }
        long answers = Math.min(Math.min(x.standing(a), x.count(a)), Math.min(x.callIn(a), x.withdraw(a)));
        answers = Math.min(answers, Math.min(Math.min(x.project(a), x.person(a)), Math.min(x.type(a), x.play())));
        Check.isTrue("rule 7: " + a, answers >= PledgeTips.NOT_FOUND);
        while (x.undo() > 0) {
            Check.isTrue("rule 7: undo", x.count(11) < 4);
        }
        Check.isTrue("rule 7: clearText", x.clearText() >= 0);
    }
}
