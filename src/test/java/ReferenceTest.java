import java.util.Random;

/** Runs of calls at random, always the same ones, on the planner and on the reference. */
public final class ReferenceTest {
    private static final int RUNS = 400;
    private static final int CALLS = 512;
    private static final int KINDS = 27;

    private final PlotterPlanner planner = new PlotterPlanner();
    private final Reference reference = new Reference();
    private final Random random;
    private final int grid;
    private final int pens;
    private final int most;
    private final String name;

    private ReferenceTest(int run) {
        random = new Random(run);
        // Small grids bring links, duplicates, covered strokes and ties; great ones the sums.
        grid = new int[] {2, 3, 5, 12, 100}[run % 5];
        pens = 1 + random.nextInt(4);
        // Of most runs the strokes stay few, since the reference tries all plans.
        most = run % 20 == 0 ? 9 : 6;
        name = "run " + run + ": ";
    }

    public static void main(String[] args) {
        for (int run = 0; run < RUNS && !Check.anyWrong(); run++) {
            new ReferenceTest(run).play();
        }
        Check.finish();
    }

    private void play() {
        for (int call = 0; call < CALLS && !Check.anyWrong(); call++) {
            call(call);
        }
    }

    /** One call on each, so that a run has no more than the document lets an object have. */
    private void call(int call) {
        int kind = random.nextInt(KINDS + 8);
        if (kind == 0 || kind >= KINDS) {
            kind = hasRoom() ? 0 : 1;
        }
        if (kind == 0) {
            addStroke(call);
        } else {
            int a = index();
            int b = index();
            Check.due(name + "call " + call + " kind " + kind + " (" + a + ", " + b + ")",
                    onPlanner(kind, a, b), onReference(kind, a, b));
        }
    }

    private boolean hasRoom() {
        return reference.strokeCount() < most || most > 8 && random.nextInt(3) == 0;
    }

    /** Mostly an index that there is, now and then one beside it or far out. */
    private int index() {
        return switch (random.nextInt(12)) {
            case 0 -> -1;
            case 1 -> reference.strokeCount();
            case 2 -> random.nextInt();
            default -> random.nextInt(Math.max(1, reference.strokeCount()));
        };
    }

    private int coordinate() {
        return random.nextInt(60) == 0 ? random.nextInt(300) - 100 : random.nextInt(grid);
    }

    private void addStroke(int call) {
        int x1 = coordinate();
        int y1 = coordinate();
        int x2 = coordinate();
        int y2 = coordinate();
        int pen = random.nextInt(30) == 0 ? random.nextInt(8) - 2 : random.nextInt(pens);
        Check.due(name + "call " + call + " addStroke", planner.addStroke(x1, y1, x2, y2, pen),
                reference.addStroke(x1, y1, x2, y2, pen));
    }

    /** Over the whole range as far as indices reach, and at times just outside of it. */
    private static int setting(int a, int b, int highest) {
        return Math.floorMod(a * 37 + b * 1249, highest + 3) - 1;
    }

    private int onPlanner(int kind, int a, int b) {
        return switch (kind) {
            case 1 -> planner.removeStroke(a);
            case 2 -> planner.strokeCount();
            case 3 -> planner.penOf(a);
            case 4 -> planner.alikeTo(a);
            case 5 -> planner.coveredBy(a);
            case 6 -> planner.removeDuplicates();
            case 7 -> planner.leastRuns(a);
            case 8 -> planner.strokeAt(a);
            case 9 -> planner.directionAt(a);
            case 10 -> planner.movePosition(a, b);
            case 11 -> planner.turnPosition(a);
            case 12 -> planner.cost();
            case 13 -> planner.penChanges();
            case 14 -> planner.runCount();
            case 15 -> planner.runLength(a);
            case 16 -> planner.setPenCost(setting(a, b, 500));
            case 17 -> planner.bestCost();
            case 18 -> planner.bestAt(a);
            case 19 -> planner.adoptBest();
            case 20 -> planner.adoptNearest();
            case 21 -> planner.setSquareLimit(setting(a, b, 9999));
            case 22 -> planner.setAcceleration(setting(a, b, 99));
            case 23 -> planner.cornerLimit(a);
            case 24 -> planner.endSquare(a);
            case 25 -> planner.peakSquare(a);
            default -> planner.undo();
        };
    }

    private int onReference(int kind, int a, int b) {
        return switch (kind) {
            case 1 -> reference.removeStroke(a);
            case 2 -> reference.strokeCount();
            case 3 -> reference.penOf(a);
            case 4 -> reference.alikeTo(a);
            case 5 -> reference.coveredBy(a);
            case 6 -> reference.removeDuplicates();
            case 7 -> reference.leastRuns(a);
            case 8 -> reference.strokeAt(a);
            case 9 -> reference.directionAt(a);
            case 10 -> reference.movePosition(a, b);
            case 11 -> reference.turnPosition(a);
            case 12 -> reference.cost();
            case 13 -> reference.penChanges();
            case 14 -> reference.runCount();
            case 15 -> reference.runLength(a);
            case 16 -> reference.setPenCost(setting(a, b, 500));
            case 17 -> reference.bestCost();
            case 18 -> reference.bestAt(a);
            case 19 -> reference.adoptBest();
            case 20 -> reference.adoptNearest();
            case 21 -> reference.setSquareLimit(setting(a, b, 9999));
            case 22 -> reference.setAcceleration(setting(a, b, 99));
            case 23 -> reference.cornerLimit(a);
            case 24 -> reference.endSquare(a);
            case 25 -> reference.peakSquare(a);
            default -> reference.undo();
        };
    }
}
