import java.io.IOException;
import java.lang.reflect.Field;
import java.lang.reflect.Modifier;
import java.nio.file.Files;
import java.nio.file.Path;
import java.util.ArrayList;
import java.util.HashMap;
import java.util.List;
import java.util.Map;
import java.util.Set;
import java.util.TreeSet;
import java.util.regex.Matcher;
import java.util.regex.Pattern;

/** What a look at the text shows of ../shared/LANGUAGE.md; the rule stands in each name. */
public final class LanguageTest {
    private static final Path FILE = Path.of("src/main/java/PlotterPlanner.java");
    private static final Set<String> LIBRARY =
            Set.of("System.arraycopy", "Math.max", "Math.min", "Math.abs");
    private static final Set<String> LIBRARY_CLASSES = Set.of("System", "Math");
    private static final Set<Class<?>> CONSTANT_TYPES =
            Set.of(int.class, long.class, boolean.class, char.class, String.class);
    private static final Pattern HEAD = Pattern.compile(
            "( +)(?:(?:public|private|static|final) )*(?:\\w+(?:\\[\\])? )?(\\w+)\\(([^()]*)\\) \\{");
    private static final Pattern CALL = Pattern.compile("(?<!\\bnew )\\b(\\w+)\\(");
    private static final int MOST_LINES = 60;
    private static final int MOST_PARAMETERS = 7;
    private static final int MOST_OPEN_CALLS = 8;
    private static final int MOST_CLASSES = 12;
    private static final int MOST_FIELDS = 20;

    private record Method(String name, int parameters, List<String> body) {
        boolean isConstructor() {
            return Character.isUpperCase(name.charAt(0));
        }
    }

    private LanguageTest() {
    }

    public static void main(String[] args) throws IOException {
        // comments go, their lines stay: a method is as long as it is written
        String code = Files.readString(FILE).replaceAll("//[^\n]*", "");
        code = Pattern.compile("/\\*.*?\\*/", Pattern.DOTALL).matcher(code)
                .replaceAll(comment -> "\n".repeat((int) comment.group().lines().count() - 1));
        rule1HasNoPackageAndNoImport(code);
        rule2HasNoLambdaAndNoInnerClass(code);
        rule3HoldsNumbersAndItsOwnClasses();
        rule4CallsTheLibraryAsItIsListed(code);
        rule5HasNoStaticState(code);
        rule6HasNoExceptions(code);
        rule10HasNoTexts(code);
        List<Method> methods = methods(code);
        Check.due("the text's methods are found", methods.size() >= 28 ? 1 : 0, 1);
        rules8And11KeepCallsFlat(methods);
        rule11KeepsMethodsAndClassesSmall(methods);
        rule12MakesNothingBehindTheConstructors(methods);
        Check.finish();
    }

    private static void none(String rule, String code, String pattern) {
        Matcher matcher = Pattern.compile(pattern).matcher(code);
        while (matcher.find()) {
            Check.due(rule + ": <" + matcher.group() + ">", 1, 0);
        }
        Check.due(rule, 0, 0);
    }

    private static void isTrue(String rule, boolean holds) {
        Check.due(rule, holds ? 1 : 0, 1);
    }

    private static List<Class<?>> classes() {
        List<Class<?>> all = new ArrayList<>();
        all.add(PlotterPlanner.class);
        for (int index = 0; index < all.size(); index++) {
            all.addAll(List.of(all.get(index).getDeclaredClasses()));
        }
        return all;
    }

    private static void rule1HasNoPackageAndNoImport(String code) {
        none("1: no package, no import", code, "\\b(package|import|protected|native)\\b");
    }

    private static void rule2HasNoLambdaAndNoInnerClass(String code) {
        none("2: no lambda, no method reference", code, "->|::");
        none("2: no anonymous class", code, "\\bnew \\w+\\([^()]*\\) *\\{");
        for (Class<?> inside : classes().subList(1, classes().size())) {
            isTrue("2: static, and not public: " + inside.getName(),
                    Modifier.isStatic(inside.getModifiers())
                            && (inside.getModifiers() & (Modifier.PUBLIC | Modifier.PROTECTED)) == 0);
        }
        Class<?> face = PlotterPlanner.class;
        isTrue("2: no anonymous or local class",
                face.getResource("PlotterPlanner$1.class") == null);
    }

    private static void rule3HoldsNumbersAndItsOwnClasses() {
        for (Class<?> owner : classes()) {
            for (Field field : owner.getDeclaredFields()) {
                Class<?> type = field.getType();
                Class<?> part = type.isArray() ? type.getComponentType() : type;
                isTrue("3: the type of " + field, part.isPrimitive() || classes().contains(part));
            }
        }
    }

    private static void rule4CallsTheLibraryAsItIsListed(String code) {
        Set<String> own = new TreeSet<>();
        for (Class<?> inside : classes()) {
            own.add(inside.getSimpleName());
        }
        Matcher name = Pattern.compile("\\b([A-Z]\\w*[a-z]\\w*)(\\.\\w+)?").matcher(code);
        while (name.find()) {
            boolean listed = LIBRARY_CLASSES.contains(name.group(1))
                    ? LIBRARY.contains(name.group()) : own.contains(name.group(1));
            isTrue("4: " + name.group(), listed);
        }
        none("4: nothing by its whole name", code, "\\bjavax?\\.");
        none("4: nothing of Object", code,
                "\\b(equals|hashCode|toString|getClass|wait|notify\\w*|finalize)\\(");
    }

    private static void rule5HasNoStaticState(String code) {
        for (Class<?> owner : classes()) {
            for (Field field : owner.getDeclaredFields()) {
                if (Modifier.isStatic(field.getModifiers())) {
                    isTrue("5: " + field, Modifier.isFinal(field.getModifiers())
                            && CONSTANT_TYPES.contains(field.getType()));
                }
            }
        }
        none("5: no static initialiser", code, "\\bstatic *\\{");
    }

    private static void rule6HasNoExceptions(String code) {
        none("6: a word shut out", code,
                "\\b(throws?|try|catch|finally|synchronized|assert|volatile)\\b");
    }

    private static void rule10HasNoTexts(String code) {
        none("10: no text", code, "\"");
    }

    private static List<Method> methods(String code) {
        List<Method> methods = new ArrayList<>();
        // a head that is written over several lines counts as one
        String[] lines = code.replaceAll(",\n +", ", ").split("\n");
        for (int line = 0; line < lines.length; line++) {
            Matcher head = HEAD.matcher(lines[line]);
            if (head.matches() && !Set.of("if", "for", "while", "switch").contains(head.group(2))) {
                List<String> body = new ArrayList<>();
                for (line++; !lines[line].equals(head.group(1) + "}"); line++) {
                    body.add(lines[line]);
                }
                int parameters = head.group(3).isEmpty() ? 0 : head.group(3).split(",").length;
                methods.add(new Method(head.group(2), parameters, body));
            }
        }
        return methods;
    }

    // Methods of one name count as one: so the calls may look deeper than they are, never flatter.
    private static void rules8And11KeepCallsFlat(List<Method> methods) {
        Map<String, Set<String>> calls = new HashMap<>();
        for (Method method : methods) {
            Set<String> called = calls.computeIfAbsent(method.name(), name -> new TreeSet<>());
            for (String line : method.body()) {
                Matcher call = CALL.matcher(line);
                while (call.find()) {
                    called.add(call.group(1));
                }
            }
        }
        for (String name : calls.keySet()) {
            int open = openCalls(name, calls, 0);
            isTrue("8, 11: " + open + " open calls from " + name, open <= MOST_OPEN_CALLS);
        }
    }

    // A method that calls itself goes past the bound, and the guard ends it there.
    private static int openCalls(String name, Map<String, Set<String>> calls, int depth) {
        if (!calls.containsKey(name) || depth > MOST_OPEN_CALLS) {
            return 0;
        }
        int most = 0;
        for (String called : calls.get(name)) {
            most = Math.max(most, openCalls(called, calls, depth + 1));
        }
        return most + 1;
    }

    private static void rule11KeepsMethodsAndClassesSmall(List<Method> methods) {
        for (Method method : methods) {
            isTrue("11: the lines of " + method.name(), method.body().size() <= MOST_LINES);
            isTrue("11: the parameters of " + method.name(),
                    method.parameters() <= MOST_PARAMETERS);
        }
        isTrue("11: the classes", classes().size() <= MOST_CLASSES);
        for (Class<?> owner : classes()) {
            int fields = 0;
            for (Field field : owner.getDeclaredFields()) {
                fields += Modifier.isStatic(field.getModifiers()) ? 0 : 1;
            }
            isTrue("11: the fields of " + owner.getName(), fields <= MOST_FIELDS);
        }
    }

    // Whatever is made is kept and counted: so 512 calls make no more than none do.
    private static void rule12MakesNothingBehindTheConstructors(List<Method> methods) {
        for (Method method : methods) {
            for (String line : method.body()) {
                isTrue("12: " + method.name() + " makes nothing",
                        method.isConstructor() || !line.matches(".*(\\bnew\\b|\\.clone\\().*"));
            }
        }
    }
}
