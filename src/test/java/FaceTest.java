import java.lang.reflect.Constructor;
import java.lang.reflect.Field;
import java.lang.reflect.Method;
import java.lang.reflect.Modifier;
import java.util.Set;
import java.util.TreeSet;

/** The face of the class is the document's and no more (rule 1 of LANGUAGE.md). */
public final class FaceTest {
    private static final Set<String> FACE = Set.of(
            "int INVALID_ARGUMENT", "int LIMIT_REACHED", "int NOT_FOUND", "PlotterPlanner/0",
            "addStroke/5", "removeStroke/1", "strokeCount/0", "penOf/1", "alikeTo/1",
            "coveredBy/1", "removeDuplicates/0", "leastRuns/1", "strokeAt/1", "directionAt/1",
            "movePosition/2", "turnPosition/1", "cost/0", "penChanges/0", "runCount/0",
            "runLength/1", "setPenCost/1", "bestCost/0", "bestAt/1", "adoptBest/0",
            "adoptNearest/0", "setSquareLimit/1", "setAcceleration/1", "cornerLimit/1",
            "endSquare/1", "peakSquare/1", "undo/0");

    private FaceTest() {
    }

    public static void main(String[] args) {
        Class<?> face = PlotterPlanner.class;
        Check.due("public and final", face.getModifiers(), Modifier.PUBLIC | Modifier.FINAL);
        sameAs(FACE, openMembers(face));
        sharedNames(face);
        Check.finish();
    }

    private static Set<String> openMembers(Class<?> face) {
        Set<String> open = new TreeSet<>();
        for (Field field : face.getDeclaredFields()) {
            if (!Modifier.isPrivate(field.getModifiers())) {
                open.add(field.getType() + " " + field.getName());
                Check.due(field.getName() + " is public static final", field.getModifiers(),
                        Modifier.PUBLIC | Modifier.STATIC | Modifier.FINAL);
            }
        }
        for (Constructor<?> constructor : face.getDeclaredConstructors()) {
            if (!Modifier.isPrivate(constructor.getModifiers())) {
                open.add(face.getName() + "/" + constructor.getParameterCount());
            }
        }
        for (Method method : face.getDeclaredMethods()) {
            if (!Modifier.isPrivate(method.getModifiers())) {
                open.add(method.getName() + "/" + method.getParameterCount());
                Check.due(method.getName() + " is public", method.getModifiers(), Modifier.PUBLIC);
                Check.due(method.getName() + " answers int",
                        method.getReturnType() == int.class ? 1 : 0, 1);
                for (Class<?> type : method.getParameterTypes()) {
                    Check.due(method.getName() + " takes int", type == int.class ? 1 : 0, 1);
                }
            }
        }
        return open;
    }

    private static void sameAs(Set<String> due, Set<String> got) {
        for (String member : due) {
            Check.due("has " + member, got.contains(member) ? 1 : 0, 1);
        }
        for (String member : got) {
            Check.due("is due: " + member, due.contains(member) ? 1 : 0, 1);
        }
    }

    // "No private method bears the name of a public one", nor does a method of a class inside
    private static void sharedNames(Class<?> face) {
        Set<String> names = new TreeSet<>();
        for (String member : FACE) {
            names.add(member.replaceAll("/.*", ""));
        }
        for (Method method : face.getDeclaredMethods()) {
            if (Modifier.isPrivate(method.getModifiers())) {
                Check.due(method + " has a public one's name", has(names, method), 0);
            }
        }
        for (Class<?> nested : face.getDeclaredClasses()) {
            for (Method method : nested.getDeclaredMethods()) {
                Check.due(method + " has a public one's name", has(names, method), 0);
            }
        }
    }

    private static int has(Set<String> names, Method method) {
        return names.contains(method.getName()) ? 1 : 0;
    }
}
