import java.io.IOException;
import java.lang.reflect.Constructor;
import java.lang.reflect.Field;
import java.lang.reflect.Method;
import java.lang.reflect.Modifier;
import java.nio.file.Files;
import java.nio.file.Path;
import java.util.Set;
import java.util.TreeSet;
import java.util.regex.Matcher;
import java.util.regex.Pattern;

/** The face of the class is the document's and no more, and its text keeps to LANGUAGE.md. */
public final class FaceTest {
    private static final Set<String> FACE = Set.of(
            "int INVALID_ARGUMENT", "int LIMIT_REACHED", "int NOT_FOUND", "PlotterPlanner/0",
            "addStroke/5", "removeStroke/1", "strokeCount/0", "penOf/1", "alikeTo/1",
            "coveredBy/1", "removeDuplicates/0", "leastRuns/1", "strokeAt/1", "directionAt/1",
            "movePosition/2", "turnPosition/1", "cost/0", "penChanges/0", "runCount/0",
            "runLength/1", "setPenCost/1", "bestCost/0", "bestAt/1", "adoptBest/0",
            "adoptNearest/0", "setSquareLimit/1", "setAcceleration/1", "cornerLimit/1",
            "endSquare/1", "peakSquare/1", "undo/0");
    // Words that LANGUAGE.md shuts out, and the ends of what it lets in (calls of a library).
    private static final Pattern SHUT_OUT = Pattern.compile(
            "\\b(throw|throws|try|catch|synchronized|assert|import|package|protected|native"
            + "|volatile)\\b|->|::|\\b\\w+Exact\\b|\\b(?!System\\.arraycopy\\b|Math\\.(max|min|abs)\\b)"
            + "(System|Math|Arrays|Integer|Long|Thread|Runtime)\\.\\w+");

    private FaceTest() {
    }

    public static void main(String[] args) throws IOException {
        Class<?> face = PlotterPlanner.class;
        Check.due("public and final", face.getModifiers(), Modifier.PUBLIC | Modifier.FINAL);
        sameAs(FACE, openMembers(face));
        nestedClasses(face);
        text(Path.of("src/main/java/PlotterPlanner.java"));
        Check.finish();
    }

    private static Set<String> openMembers(Class<?> face) {
        Set<String> open = new TreeSet<>();
        for (Field field : face.getDeclaredFields()) {
            if (!Modifier.isPrivate(field.getModifiers())) {
                open.add(field.getType() + " " + field.getName());
                Check.due(field.getName() + " is public static final", field.getModifiers(),
                        Modifier.PUBLIC | Modifier.STATIC | Modifier.FINAL);
            }
        }
        for (Constructor<?> constructor : face.getDeclaredConstructors()) {
            if (!Modifier.isPrivate(constructor.getModifiers())) {
                open.add(face.getName() + "/" + constructor.getParameterCount());
            }
        }
        for (Method method : face.getDeclaredMethods()) {
            if (!Modifier.isPrivate(method.getModifiers())) {
                open.add(method.getName() + "/" + method.getParameterCount());
                Check.due(method.getName() + " is public", method.getModifiers(), Modifier.PUBLIC);
                Check.due(method.getName() + " answers int",
                        method.getReturnType() == int.class ? 1 : 0, 1);
            }
        }
        return open;
    }

    private static void sameAs(Set<String> due, Set<String> got) {
        for (String member : due) {
            Check.due("has " + member, got.contains(member) ? 1 : 0, 1);
        }
        for (String member : got) {
            Check.due("is due: " + member, due.contains(member) ? 1 : 0, 1);
        }
    }

    private static void nestedClasses(Class<?> face) {
        Check.due("at most twelve classes", face.getDeclaredClasses().length < 12 ? 1 : 0, 1);
        for (Class<?> nested : face.getDeclaredClasses()) {
            boolean plain = Modifier.isStatic(nested.getModifiers())
                    && !Modifier.isPublic(nested.getModifiers());
            Check.due(nested.getName() + " is static and not public", plain ? 1 : 0, 1);
            for (Method method : nested.getDeclaredMethods()) {
                boolean shared = FACE.stream()
                        .anyMatch(member -> member.startsWith(method.getName() + "/"));
                Check.due(method + " has a public one's name", shared ? 1 : 0, 0);
                Check.due(method + " has at most seven parameters",
                        method.getParameterCount() <= 7 ? 1 : 0, 1);
            }
        }
    }

    private static void text(Path file) throws IOException {
        String code = Files.readString(file)
                .replaceAll("(?s)/\\*.*?\\*/", "").replaceAll("//[^\n]*", "");
        Matcher matcher = SHUT_OUT.matcher(code);
        while (matcher.find()) {
            Check.due("shut out: " + matcher.group(), 1, 0);
        }
        Check.due("no text", code.indexOf('"'), -1);
    }
}
