/** The four examples of the document and the one of README.md, call by call. */
public final class ExamplesTest {
    private ExamplesTest() {
    }

    public static void main(String[] args) {
        bestPlanOfTwoStrokes();
        speedsThroughCorners();
        duplicatesAndCoveredStrokes();
        leastNumberOfRuns();
        readme();
        Check.finish();
    }

    private static void bestPlanOfTwoStrokes() {
        PlotterPlanner x = new PlotterPlanner();
        Check.due("1: addStroke(10, 10, 20, 10, 0)", x.addStroke(10, 10, 20, 10, 0), 0);
        Check.due("1: addStroke(40, 40, 20, 10, 0)", x.addStroke(40, 40, 20, 10, 0), 1);
        Check.due("1: cost()", x.cost(), 90);
        Check.due("1: runCount()", x.runCount(), 2);
        Check.due("1: bestCost()", x.bestCost(), 60);
        Check.due("1: bestAt(1)", x.bestAt(1), 3);
        Check.due("1: adoptBest()", x.adoptBest(), 60);
        Check.due("1: runLength(0)", x.runLength(0), 2);
    }

    private static void speedsThroughCorners() {
        PlotterPlanner x = new PlotterPlanner();
        Check.due("2: addStroke(0, 0, 30, 0, 0)", x.addStroke(0, 0, 30, 0, 0), 0);
        Check.due("2: addStroke(30, 0, 60, 0, 0)", x.addStroke(30, 0, 60, 0, 0), 1);
        Check.due("2: addStroke(60, 0, 60, 20, 0)", x.addStroke(60, 0, 60, 20, 0), 2);
        Check.due("2: cornerLimit(0)", x.cornerLimit(0), 400);
        Check.due("2: cornerLimit(1)", x.cornerLimit(1), 0);
        Check.due("2: cornerLimit(2)", x.cornerLimit(2), -3);
        Check.due("2: endSquare(0)", x.endSquare(0), 400);
        Check.due("2: peakSquare(1)", x.peakSquare(1), 400);
    }

    private static void duplicatesAndCoveredStrokes() {
        PlotterPlanner x = new PlotterPlanner();
        Check.due("3: addStroke(5, 5, 5, 5, 0)", x.addStroke(5, 5, 5, 5, 0), -1);
        Check.due("3: addStroke(1, 1, 9, 9, 2)", x.addStroke(1, 1, 9, 9, 2), 0);
        Check.due("3: addStroke(9, 9, 1, 1, 2)", x.addStroke(9, 9, 1, 1, 2), 1);
        Check.due("3: addStroke(3, 3, 4, 4, 2)", x.addStroke(3, 3, 4, 4, 2), 2);
        Check.due("3: alikeTo(1)", x.alikeTo(1), 0);
        Check.due("3: coveredBy(2)", x.coveredBy(2), 0);
        Check.due("3: removeDuplicates()", x.removeDuplicates(), 1);
        Check.due("3: strokeCount()", x.strokeCount(), 2);
        Check.due("3: undo()", x.undo(), 3);
    }

    private static void leastNumberOfRuns() {
        PlotterPlanner x = new PlotterPlanner();
        Check.due("4: addStroke(0, 0, 5, 0, 1)", x.addStroke(0, 0, 5, 0, 1), 0);
        Check.due("4: addStroke(5, 0, 5, 5, 1)", x.addStroke(5, 0, 5, 5, 1), 1);
        Check.due("4: addStroke(0, 0, 0, 5, 1)", x.addStroke(0, 0, 0, 5, 1), 2);
        Check.due("4: leastRuns(1)", x.leastRuns(1), 1);
        Check.due("4: leastRuns(0)", x.leastRuns(0), 0);
        Check.due("4: leastRuns(4)", x.leastRuns(4), -1);
    }

    private static void readme() {
        PlotterPlanner x = new PlotterPlanner();
        Check.due("README: addStroke(10, 10, 20, 10, 0)", x.addStroke(10, 10, 20, 10, 0), 0);
        Check.due("README: addStroke(40, 40, 20, 10, 0)", x.addStroke(40, 40, 20, 10, 0), 1);
        Check.due("README: cost()", x.cost(), 90);
        Check.due("README: bestCost()", x.bestCost(), 60);
        Check.due("README: adoptBest()", x.adoptBest(), 60);
        Check.due("README: runLength(0)", x.runLength(0), 2);
        Check.due("README: undo()", x.undo(), 2);
    }
}
