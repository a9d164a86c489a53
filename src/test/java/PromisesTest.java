/** Each promise by hand: ordinary inputs, the edges that the document names, and wrong inputs. */
public final class PromisesTest {
    private static final int WRONG = PlotterPlanner.INVALID_ARGUMENT;
    private static final int FULL = PlotterPlanner.LIMIT_REACHED;
    private static final int NONE = PlotterPlanner.NOT_FOUND;
    private static final int[] FAR_OUT = {Integer.MIN_VALUE, -2, -1, 8, 9, Integer.MAX_VALUE};

    private PromisesTest() {
    }

    public static void main(String[] args) {
        constants();
        promise1NewObject();
        promise2AddStroke();
        promise2AddStrokeErrors();
        promise3RemoveStroke();
        promise4StrokeCount();
        promise5PenOf();
        promise6AlikeTo();
        promise7CoveredBy();
        promise8RemoveDuplicates();
        promise9LeastRuns();
        promises10And11StrokeAtAndDirectionAt();
        promise12MovePosition();
        promise13TurnPosition();
        promise14Cost();
        promise15PenChanges();
        promise16RunCount();
        promise17RunLength();
        promise18SetPenCost();
        promise19BestCost();
        promise20BestAt();
        promise20BestAtTies();
        promises19To21OfEightStrokes();
        promise21AdoptBest();
        promise22AdoptNearest();
        promise22AdoptNearestTies();
        promise23SetSquareLimit();
        promise24SetAcceleration();
        promise25CornerLimit();
        promise26EndSquare();
        promise27PeakSquare();
        promises26And27OfEightPositions();
        promise28Undo();
        promise28UndoOfEachEdit();
        promise28UndoLeavesTheSettings();
        promise28ErrorsAreNoEdits();
        Check.finish();
    }

    private static void constants() {
        Check.due("INVALID_ARGUMENT", PlotterPlanner.INVALID_ARGUMENT, -1);
        Check.due("LIMIT_REACHED", PlotterPlanner.LIMIT_REACHED, -2);
        Check.due("NOT_FOUND", PlotterPlanner.NOT_FOUND, -3);
    }

    private static void promise1NewObject() {
        PlotterPlanner x = new PlotterPlanner();
        Check.plan("1: new", x);
        Check.due("1: cost()", x.cost(), 0);
        Check.due("1: penChanges()", x.penChanges(), 0);
        Check.due("1: runCount()", x.runCount(), 0);
        Check.due("1: runLength(0)", x.runLength(0), NONE);
        Check.due("1: bestCost()", x.bestCost(), 0);
        Check.due("1: bestAt(0)", x.bestAt(0), NONE);
        Check.due("1: undo()", x.undo(), NONE);
        Check.due("1: setPenCost(1)", x.setPenCost(1), 50);
        Check.due("1: setSquareLimit(1)", x.setSquareLimit(1), 400);
        Check.due("1: setAcceleration(1)", x.setAcceleration(1), 10);
        Check.due("1: another's setPenCost(1)", new PlotterPlanner().setPenCost(1), 50);
    }

    private static void promise2AddStroke() {
        PlotterPlanner x = new PlotterPlanner();
        Check.due("2: addStroke(0, 0, 99, 99, 0)", x.addStroke(0, 0, 99, 99, 0), 0);
        Check.due("2: addStroke(99, 99, 0, 0, 3)", x.addStroke(99, 99, 0, 0, 3), 1);
        Check.due("2: addStroke(5, 5, 5, 6, 1)", x.addStroke(5, 5, 5, 6, 1), 2);
        Check.due("2: addStroke(5, 5, 6, 5, 2)", x.addStroke(5, 5, 6, 5, 2), 3);
        Check.plan("2: addStroke", x, 0, 2, 4, 6);
        // A new stroke comes to the end and forward, whatever the plan looks like before it.
        x.movePosition(3, 0);
        x.turnPosition(1);
        Check.due("2: addStroke(1, 1, 2, 2, 0)", x.addStroke(1, 1, 2, 2, 0), 4);
        Check.plan("2: addStroke later", x, 6, 1, 2, 4, 8);
    }

    private static void promise2AddStrokeErrors() {
        PlotterPlanner x = new PlotterPlanner();
        for (int far : new int[] {Integer.MIN_VALUE, -1, 100, Integer.MAX_VALUE}) {
            Check.due("2: x1 " + far, x.addStroke(far, 1, 2, 3, 0), WRONG);
            Check.due("2: y1 " + far, x.addStroke(1, far, 2, 3, 0), WRONG);
            Check.due("2: x2 " + far, x.addStroke(1, 2, far, 3, 0), WRONG);
            Check.due("2: y2 " + far, x.addStroke(1, 2, 3, far, 0), WRONG);
            Check.due("2: pen " + far, x.addStroke(1, 2, 3, 4, far), WRONG);
        }
        Check.due("2: pen 4", x.addStroke(1, 2, 3, 4, 4), WRONG);
        Check.due("2: equal points", x.addStroke(7, 8, 7, 8, 0), WRONG);
        Check.due("2: strokeCount()", x.strokeCount(), 0);
        Check.due("2: undo() behind errors", x.undo(), NONE);
        for (int stroke = 0; stroke < 8; stroke++) {
            Check.due("2: addStroke " + stroke, x.addStroke(stroke, 0, stroke, 9, 0), stroke);
        }
        Check.due("2: a ninth stroke", x.addStroke(1, 2, 3, 4, 0), FULL);
        Check.due("2: a wrong ninth stroke", x.addStroke(1, 2, 1, 2, 0), WRONG);
        Check.due("2: a ninth stroke with a wrong pen", x.addStroke(1, 2, 3, 4, -1), WRONG);
        Check.due("2: strokeCount()", x.strokeCount(), 8);
        Check.due("2: removeStroke(7)", x.removeStroke(7), 7);
        Check.due("2: an eighth stroke again", x.addStroke(1, 2, 3, 4, 0), 7);
    }

    private static void promise3RemoveStroke() {
        PlotterPlanner x = new PlotterPlanner();
        x.addStroke(0, 0, 1, 0, 0);
        x.addStroke(2, 0, 3, 0, 1);
        x.addStroke(4, 0, 5, 0, 2);
        x.addStroke(6, 0, 7, 0, 3);
        x.movePosition(3, 0);
        x.turnPosition(0);
        x.turnPosition(2);
        Check.plan("3: before", x, 7, 0, 3, 4);
        Check.due("3: removeStroke(1)", x.removeStroke(1), 3);
        Check.plan("3: removeStroke(1)", x, 5, 0, 2);
        Check.due("3: penOf(0)", x.penOf(0), 0);
        Check.due("3: penOf(1)", x.penOf(1), 2);
        Check.due("3: penOf(2)", x.penOf(2), 3);
        // (0,0) to (7,0), (6,0) to (0,0), (1,0) to (4,0), and a pen change at each position
        Check.due("3: cost()", x.cost(), 7 + 6 + 3 + 150);
        Check.due("3: removeStroke(2)", x.removeStroke(2), 2);
        Check.plan("3: removeStroke(2)", x, 0, 2);
        Check.due("3: removeStroke(0)", x.removeStroke(0), 1);
        Check.plan("3: removeStroke(0)", x, 0);
        Check.due("3: cost()", x.cost(), 4 + 50);
        Check.due("3: removeStroke(1) of one", x.removeStroke(1), WRONG);
        for (int far : FAR_OUT) {
            Check.due("3: removeStroke(" + far + ")", x.removeStroke(far), WRONG);
        }
        Check.due("3: removeStroke(0)", x.removeStroke(0), 0);
        Check.due("3: removeStroke(0) of none", x.removeStroke(0), WRONG);
        Check.plan("3: removeStroke(0)", x);
    }

    private static void promise4StrokeCount() {
        PlotterPlanner x = new PlotterPlanner();
        Check.due("4: strokeCount()", x.strokeCount(), 0);
        x.addStroke(0, 0, 1, 0, 0);
        Check.due("4: strokeCount()", x.strokeCount(), 1);
        x.addStroke(0, 0, 1, 0, 0);
        Check.due("4: strokeCount()", x.strokeCount(), 2);
        x.removeDuplicates();
        Check.due("4: strokeCount()", x.strokeCount(), 1);
        x.undo();
        Check.due("4: strokeCount()", x.strokeCount(), 2);
    }

    private static void promise5PenOf() {
        PlotterPlanner x = new PlotterPlanner();
        Check.due("5: penOf(0) of none", x.penOf(0), WRONG);
        for (int pen = 0; pen < 4; pen++) {
            x.addStroke(0, 0, 1, 0, pen);
        }
        for (int pen = 0; pen < 4; pen++) {
            Check.due("5: penOf(" + pen + ")", x.penOf(pen), pen);
        }
        Check.due("5: penOf(4) of four", x.penOf(4), WRONG);
        for (int far : FAR_OUT) {
            Check.due("5: penOf(" + far + ")", x.penOf(far), WRONG);
        }
        x.movePosition(0, 3);
        Check.due("5: penOf(0) by number, not by position", x.penOf(0), 0);
    }

    private static void promise6AlikeTo() {
        PlotterPlanner x = new PlotterPlanner();
        Check.due("6: alikeTo(0) of none", x.alikeTo(0), WRONG);
        x.addStroke(1, 2, 3, 4, 0);
        Check.due("6: alikeTo(0), not to itself", x.alikeTo(0), NONE);
        x.addStroke(1, 2, 3, 4, 1);
        x.addStroke(1, 2, 3, 5, 0);
        x.addStroke(1, 4, 3, 2, 0);
        Check.due("6: alikeTo(0)", x.alikeTo(0), NONE);
        x.addStroke(3, 4, 1, 2, 0);
        x.addStroke(1, 2, 3, 4, 0);
        Check.due("6: alikeTo(0)", x.alikeTo(0), 4);
        Check.due("6: alikeTo(4)", x.alikeTo(4), 0);
        Check.due("6: alikeTo(5)", x.alikeTo(5), 0);
        for (int lone = 1; lone < 4; lone++) {
            Check.due("6: alikeTo(" + lone + ")", x.alikeTo(lone), NONE);
        }
        Check.due("6: alikeTo(6) of six", x.alikeTo(6), WRONG);
        for (int far : FAR_OUT) {
            Check.due("6: alikeTo(" + far + ")", x.alikeTo(far), WRONG);
        }
    }

    private static void promise7CoveredBy() {
        PlotterPlanner x = new PlotterPlanner();
        Check.due("7: coveredBy(0) of none", x.coveredBy(0), WRONG);
        x.addStroke(10, 10, 30, 50, 0);
        Check.due("7: coveredBy(0), not by itself", x.coveredBy(0), NONE);
        x.addStroke(30, 50, 10, 10, 0);
        x.addStroke(20, 30, 30, 50, 0);
        x.addStroke(11, 12, 12, 14, 1);
        x.addStroke(20, 30, 31, 52, 0);
        x.addStroke(20, 30, 21, 31, 0);
        x.addStroke(22, 34, 21, 32, 0);
        x.addStroke(31, 52, 32, 54, 0);
        Check.due("7: coveredBy(0), alike does not count", x.coveredBy(0), NONE);
        Check.due("7: coveredBy(1)", x.coveredBy(1), NONE);
        Check.due("7: coveredBy(2), sharing an end point", x.coveredBy(2), 0);
        Check.due("7: coveredBy(3), another pen", x.coveredBy(3), NONE);
        Check.due("7: coveredBy(4), beyond the end", x.coveredBy(4), NONE);
        Check.due("7: coveredBy(5), another direction", x.coveredBy(5), NONE);
        Check.due("7: coveredBy(6), backwards", x.coveredBy(6), 0);
        Check.due("7: coveredBy(7), outside", x.coveredBy(7), NONE);
        x.removeStroke(0);
        x.removeStroke(0);
        Check.due("7: coveredBy(4), by a higher and lower one", x.coveredBy(4), 0);
        Check.due("7: coveredBy(0), by a higher one", x.coveredBy(0), 2);
        Check.due("7: coveredBy(6) of six", x.coveredBy(6), WRONG);
        for (int far : FAR_OUT) {
            Check.due("7: coveredBy(" + far + ")", x.coveredBy(far), WRONG);
        }
        PlotterPlanner y = new PlotterPlanner();
        y.addStroke(5, 0, 5, 99, 3);
        y.addStroke(5, 7, 5, 3, 3);
        y.addStroke(0, 3, 99, 3, 3);
        y.addStroke(98, 3, 0, 3, 3);
        Check.due("7: coveredBy(1), upright", y.coveredBy(1), 0);
        Check.due("7: coveredBy(3), level", y.coveredBy(3), 2);
        Check.due("7: coveredBy(2)", y.coveredBy(2), NONE);
        Check.due("7: coveredBy(0)", y.coveredBy(0), NONE);
    }

    private static void promise8RemoveDuplicates() {
        PlotterPlanner x = new PlotterPlanner();
        Check.due("8: removeDuplicates() of none", x.removeDuplicates(), 0);
        x.addStroke(1, 1, 2, 2, 0);
        x.addStroke(2, 2, 1, 1, 0);
        x.addStroke(1, 1, 2, 2, 1);
        x.addStroke(5, 5, 6, 6, 0);
        x.addStroke(1, 1, 2, 2, 0);
        x.addStroke(6, 6, 5, 5, 0);
        x.addStroke(1, 1, 2, 2, 1);
        x.addStroke(1, 1, 9, 9, 0);
        x.movePosition(7, 0);
        x.movePosition(3, 7);
        x.turnPosition(7);
        Check.plan("8: before", x, 14, 0, 2, 6, 8, 10, 12, 5);
        Check.due("8: removeDuplicates()", x.removeDuplicates(), 4);
        Check.plan("8: removeDuplicates()", x, 6, 0, 4, 3);
        Check.due("8: penOf(1)", x.penOf(1), 1);
        Check.due("8: penOf(2)", x.penOf(2), 0);
        Check.due("8: removeDuplicates() again", x.removeDuplicates(), 0);
        Check.plan("8: removeDuplicates() again", x, 6, 0, 4, 3);
        Check.due("8: covered strokes stay", x.coveredBy(0), 3);
        Check.due("8: undo()", x.undo(), 3);
        Check.due("8: undo()", x.undo(), 2);
        Check.plan("8: undone", x, 14, 0, 2, 6, 8, 10, 12, 5);
    }

    private static void promise9LeastRuns() {
        PlotterPlanner x = new PlotterPlanner();
        for (int pen = 0; pen < 4; pen++) {
            Check.due("9: leastRuns(" + pen + ") of none", x.leastRuns(pen), 0);
        }
        // a star with four arms: four odd vertices, the middle is even
        x.addStroke(50, 50, 60, 50, 0);
        x.addStroke(50, 50, 40, 50, 0);
        x.addStroke(50, 60, 50, 50, 0);
        Check.due("9: leastRuns(0), three arms", x.leastRuns(0), 2);
        x.addStroke(50, 40, 50, 50, 0);
        Check.due("9: leastRuns(0), four arms", x.leastRuns(0), 2);
        // the same points with another pen are another graph
        x.addStroke(60, 50, 50, 60, 1);
        Check.due("9: leastRuns(0)", x.leastRuns(0), 2);
        Check.due("9: leastRuns(1)", x.leastRuns(1), 1);
        // crossing without an end point in common is no vertex
        x.addStroke(50, 50, 60, 60, 1);
        Check.due("9: leastRuns(1), two components", x.leastRuns(1), 2);
        x.addStroke(60, 60, 50, 50, 1);
        Check.due("9: leastRuns(1), a component without odd ones", x.leastRuns(1), 2);
        x.addStroke(60, 50, 50, 60, 1);
        Check.due("9: leastRuns(1), two closed components", x.leastRuns(1), 2);
        Check.due("9: leastRuns(2)", x.leastRuns(2), 0);
        for (int far : new int[] {Integer.MIN_VALUE, -1, 4, Integer.MAX_VALUE}) {
            Check.due("9: leastRuns(" + far + ")", x.leastRuns(far), WRONG);
        }
        leastRunsOfLateJoins();
    }

    private static void leastRunsOfLateJoins() {
        PlotterPlanner x = new PlotterPlanner();
        x.addStroke(0, 0, 1, 0, 3);
        x.addStroke(2, 0, 3, 0, 3);
        x.addStroke(4, 0, 5, 0, 3);
        x.addStroke(6, 0, 7, 0, 3);
        Check.due("9: leastRuns(3), four apart", x.leastRuns(3), 4);
        x.addStroke(5, 0, 6, 0, 3);
        Check.due("9: leastRuns(3), two joined", x.leastRuns(3), 3);
        x.addStroke(1, 0, 2, 0, 3);
        Check.due("9: leastRuns(3), two pairs", x.leastRuns(3), 2);
        x.addStroke(3, 0, 4, 0, 3);
        Check.due("9: leastRuns(3), a chain", x.leastRuns(3), 1);
        x.addStroke(0, 0, 7, 0, 3);
        Check.due("9: leastRuns(3), a ring", x.leastRuns(3), 1);
        // each two end points can be the ones that touch
        PlotterPlanner y = new PlotterPlanner();
        y.addStroke(5, 5, 0, 0, 0);
        y.addStroke(5, 5, 9, 9, 0);
        y.addStroke(0, 0, 5, 5, 1);
        y.addStroke(9, 9, 5, 5, 1);
        y.addStroke(0, 0, 5, 5, 2);
        y.addStroke(5, 5, 9, 9, 2);
        y.addStroke(5, 5, 0, 0, 3);
        y.addStroke(9, 9, 5, 5, 3);
        for (int pen = 0; pen < 4; pen++) {
            Check.due("9: leastRuns(" + pen + "), two that touch", y.leastRuns(pen), 1);
        }
    }

    private static void promises10And11StrokeAtAndDirectionAt() {
        PlotterPlanner x = new PlotterPlanner();
        Check.due("10: strokeAt(0) of none", x.strokeAt(0), NONE);
        Check.due("11: directionAt(0) of none", x.directionAt(0), NONE);
        x.addStroke(0, 0, 1, 0, 0);
        x.addStroke(2, 0, 3, 0, 0);
        x.addStroke(4, 0, 5, 0, 0);
        x.movePosition(2, 0);
        x.turnPosition(1);
        Check.plan("10, 11", x, 4, 1, 2);
        Check.due("11: directionAt(3)", x.directionAt(3), NONE);
        for (int far : FAR_OUT) {
            int due = far < 0 ? WRONG : NONE;
            Check.due("10: strokeAt(" + far + ")", x.strokeAt(far), due);
            Check.due("11: directionAt(" + far + ")", x.directionAt(far), due);
        }
    }

    private static void promise12MovePosition() {
        PlotterPlanner x = new PlotterPlanner();
        Check.due("12: movePosition(0, 0) of none", x.movePosition(0, 0), WRONG);
        for (int stroke = 0; stroke < 5; stroke++) {
            x.addStroke(stroke, 0, stroke, 9, 0);
        }
        x.turnPosition(1);
        Check.due("12: movePosition(1, 3)", x.movePosition(1, 3), 1);
        Check.plan("12: movePosition(1, 3)", x, 0, 4, 6, 3, 8);
        Check.due("12: movePosition(4, 1)", x.movePosition(4, 1), 4);
        Check.plan("12: movePosition(4, 1)", x, 0, 8, 4, 6, 3);
        Check.due("12: movePosition(0, 4)", x.movePosition(0, 4), 0);
        Check.plan("12: movePosition(0, 4)", x, 8, 4, 6, 3, 0);
        Check.due("12: movePosition(2, 2)", x.movePosition(2, 2), 3);
        Check.plan("12: movePosition(2, 2)", x, 8, 4, 6, 3, 0);
        Check.due("12: movePosition(5, 0)", x.movePosition(5, 0), WRONG);
        Check.due("12: movePosition(0, 5)", x.movePosition(0, 5), WRONG);
        for (int far : FAR_OUT) {
            Check.due("12: movePosition(" + far + ", 0)", x.movePosition(far, 0), WRONG);
            Check.due("12: movePosition(0, " + far + ")", x.movePosition(0, far), WRONG);
        }
        Check.plan("12: wrong moves", x, 8, 4, 6, 3, 0);
        Check.due("12: undo(), a move to its own place counts", x.undo(), 3);
        Check.plan("12: undo()", x, 8, 4, 6, 3, 0);
        x.undo();
        Check.plan("12: undo()", x, 0, 8, 4, 6, 3);
    }

    private static void promise13TurnPosition() {
        PlotterPlanner x = new PlotterPlanner();
        Check.due("13: turnPosition(0) of none", x.turnPosition(0), WRONG);
        x.addStroke(10, 0, 30, 0, 0);
        x.addStroke(40, 0, 50, 0, 0);
        Check.due("13: turnPosition(1)", x.turnPosition(1), 1);
        Check.plan("13: turnPosition(1)", x, 0, 3);
        Check.due("13: cost()", x.cost(), 10 + 20 + 50);
        Check.due("13: turnPosition(1)", x.turnPosition(1), 0);
        Check.plan("13: turnPosition(1) again", x, 0, 2);
        Check.due("13: turnPosition(2)", x.turnPosition(2), WRONG);
        for (int far : FAR_OUT) {
            Check.due("13: turnPosition(" + far + ")", x.turnPosition(far), WRONG);
        }
        x.movePosition(0, 1);
        Check.due("13: turnPosition(0), a position", x.turnPosition(0), 1);
        Check.plan("13: turnPosition(0)", x, 3, 0);
    }

    private static void promise14Cost() {
        PlotterPlanner x = new PlotterPlanner();
        Check.due("14: cost() of none", x.cost(), 0);
        x.addStroke(3, 7, 20, 10, 0);
        Check.due("14: cost(), y is greater", x.cost(), 7 + 50);
        x.addStroke(45, 20, 50, 60, 0);
        Check.due("14: cost(), x is greater", x.cost(), 7 + 50 + 25);
        x.addStroke(48, 55, 1, 1, 3);
        Check.due("14: cost(), another pen", x.cost(), 7 + 50 + 25 + 5 + 50);
        x.addStroke(1, 1, 2, 2, 3);
        Check.due("14: cost(), no travel", x.cost(), 7 + 50 + 25 + 5 + 50);
        x.addStroke(2, 2, 99, 99, 0);
        Check.due("14: cost(), the first pen again", x.cost(), 7 + 50 + 25 + 5 + 50 + 50);
        x.setPenCost(0);
        Check.due("14: cost() without a pen cost", x.cost(), 7 + 25 + 5);
        x.setPenCost(500);
        Check.due("14: cost() with the highest", x.cost(), 7 + 25 + 5 + 1500);
        x.turnPosition(0);
        Check.due("14: cost(), turned", x.cost(), 20 + 42 + 5 + 1500);
    }

    private static void promise15PenChanges() {
        PlotterPlanner x = new PlotterPlanner();
        Check.due("15: penChanges() of none", x.penChanges(), 0);
        x.addStroke(0, 0, 1, 0, 0);
        Check.due("15: penChanges(), position 0", x.penChanges(), 1);
        x.addStroke(5, 0, 6, 0, 0);
        Check.due("15: penChanges(), the same pen", x.penChanges(), 1);
        x.addStroke(0, 0, 1, 0, 2);
        x.addStroke(0, 0, 1, 0, 0);
        Check.due("15: penChanges()", x.penChanges(), 3);
        x.setPenCost(0);
        Check.due("15: penChanges() that cost nothing", x.penChanges(), 3);
        x.movePosition(2, 3);
        Check.due("15: penChanges(), moved", x.penChanges(), 2);
    }

    private static void promise16RunCount() {
        PlotterPlanner x = new PlotterPlanner();
        Check.due("16: runCount() of none", x.runCount(), 0);
        x.addStroke(0, 0, 5, 0, 0);
        Check.due("16: runCount() of one", x.runCount(), 1);
        x.addStroke(5, 0, 5, 5, 0);
        Check.due("16: runCount(), linked", x.runCount(), 1);
        x.addStroke(5, 5, 0, 5, 1);
        Check.due("16: runCount(), another pen", x.runCount(), 2);
        x.addStroke(0, 6, 0, 9, 1);
        Check.due("16: runCount(), another point", x.runCount(), 3);
        x.addStroke(9, 9, 0, 9, 1);
        Check.due("16: runCount(), ends where it should begin", x.runCount(), 4);
        x.turnPosition(4);
        Check.due("16: runCount(), turned", x.runCount(), 3);
        x.turnPosition(0);
        Check.due("16: runCount(), turned apart", x.runCount(), 4);
    }

    private static void promise17RunLength() {
        PlotterPlanner x = new PlotterPlanner();
        Check.due("17: runLength(0) of none", x.runLength(0), NONE);
        Check.due("17: runLength(-1) of none", x.runLength(-1), WRONG);
        x.addStroke(0, 0, 5, 0, 0);
        x.addStroke(5, 0, 5, 5, 0);
        x.addStroke(5, 5, 0, 5, 1);
        x.addStroke(9, 9, 8, 8, 1);
        x.addStroke(8, 8, 7, 9, 1);
        x.addStroke(7, 9, 7, 7, 1);
        Check.due("17: runLength(0)", x.runLength(0), 2);
        Check.due("17: runLength(1)", x.runLength(1), 1);
        Check.due("17: runLength(2)", x.runLength(2), 3);
        Check.due("17: runLength(3)", x.runLength(3), NONE);
        for (int far : FAR_OUT) {
            Check.due("17: runLength(" + far + ")", x.runLength(far), far < 0 ? WRONG : NONE);
        }
    }

    private static void promise18SetPenCost() {
        PlotterPlanner x = new PlotterPlanner();
        x.addStroke(10, 0, 20, 0, 0);
        Check.due("18: bestCost()", x.bestCost(), 60);
        Check.due("18: setPenCost(500)", x.setPenCost(500), 50);
        Check.due("18: bestCost()", x.bestCost(), 510);
        Check.due("18: setPenCost(501)", x.setPenCost(501), WRONG);
        Check.due("18: setPenCost(-1)", x.setPenCost(-1), WRONG);
        Check.due("18: setPenCost(least)", x.setPenCost(Integer.MIN_VALUE), WRONG);
        Check.due("18: setPenCost(greatest)", x.setPenCost(Integer.MAX_VALUE), WRONG);
        Check.due("18: cost()", x.cost(), 510);
        Check.due("18: setPenCost(0)", x.setPenCost(0), 500);
        Check.due("18: cost()", x.cost(), 10);
        Check.due("18: setPenCost(7)", x.setPenCost(7), 0);
        Check.due("18: undo(), no edit", x.undo(), 0);
        Check.due("18: setPenCost(8) behind undo", x.setPenCost(8), 7);
    }

    private static void promise19BestCost() {
        PlotterPlanner x = new PlotterPlanner();
        Check.due("19: bestCost() of none", x.bestCost(), 0);
        x.addStroke(30, 0, 40, 0, 0);
        x.addStroke(20, 0, 10, 0, 0);
        Check.due("19: bestCost()", x.bestCost(), 10 + 10 + 50);
        Check.due("19: cost() stays", x.cost(), 30 + 20 + 50);
        x.addStroke(41, 0, 43, 0, 1);
        x.addStroke(45, 0, 50, 0, 0);
        // 10 to 20, 30 to 40, 45 to 50 with pen 0, then 43 to 41 with pen 1
        Check.due("19: bestCost(), one change", x.bestCost(), 10 + 10 + 5 + 7 + 100);
        x.setPenCost(1);
        Check.due("19: bestCost(), cheap pens", x.bestCost(), 10 + 10 + 1 + 2 + 3);
        x.removeStroke(0);
        Check.due("19: bestCost(), one less", x.bestCost(), 10 + 21 + 2 + 3);
        x.undo();
        Check.due("19: bestCost(), undone", x.bestCost(), 10 + 10 + 1 + 2 + 3);
        Check.due("19: undo(), bestCost is no edit", x.undo(), 2);
        // the nearest stroke first would cost 10 + 20
        PlotterPlanner y = new PlotterPlanner();
        y.addStroke(10, 0, 20, 0, 0);
        y.addStroke(0, 12, 0, 13, 0);
        Check.due("19: bestCost(), not the nearest plan", y.bestCost(), 12 + 13 + 50);
        Check.due("19: adoptNearest()", y.adoptNearest(), 10 + 20 + 50);
    }

    private static void promise20BestAt() {
        PlotterPlanner x = new PlotterPlanner();
        Check.due("20: bestAt(0) of none", x.bestAt(0), NONE);
        Check.due("20: bestAt(-1) of none", x.bestAt(-1), WRONG);
        x.addStroke(30, 0, 40, 0, 0);
        x.addStroke(20, 0, 10, 0, 0);
        x.addStroke(41, 0, 43, 0, 1);
        Check.due("20: bestAt(0)", x.bestAt(0), 3);
        Check.due("20: bestAt(1)", x.bestAt(1), 0);
        Check.due("20: bestAt(2)", x.bestAt(2), 4);
        Check.due("20: bestAt(3)", x.bestAt(3), NONE);
        for (int far : FAR_OUT) {
            Check.due("20: bestAt(" + far + ")", x.bestAt(far), far < 0 ? WRONG : NONE);
        }
        Check.plan("20: the plan stays", x, 0, 2, 4);
        x.removeStroke(1);
        Check.due("20: bestAt(0), one less", x.bestAt(0), 0);
        Check.due("20: bestAt(1), one less", x.bestAt(1), 2);
        Check.due("20: bestAt(2), one less", x.bestAt(2), NONE);
    }

    private static void promise20BestAtTies() {
        PlotterPlanner x = new PlotterPlanner();
        // all points are as far from (0, 0); no direction and no order is cheaper
        x.addStroke(50, 50, 50, 0, 0);
        Check.due("20: bestAt(0), forward first", x.bestAt(0), 0);
        x.addStroke(50, 0, 50, 50, 0);
        Check.due("20: bestAt(0), the lowest first", x.bestAt(0), 0);
        Check.due("20: bestAt(1)", x.bestAt(1), 2);
        // backward may come first where position 0 costs the same, but never ahead of forward
        PlotterPlanner y = new PlotterPlanner();
        y.addStroke(10, 0, 10, 10, 0);
        y.addStroke(10, 20, 10, 10, 0);
        Check.due("20: bestCost()", y.bestCost(), 60);
        Check.due("20: bestAt(0)", y.bestAt(0), 0);
        Check.due("20: bestAt(1), the cheaper one", y.bestAt(1), 3);
        // the lower stroke is first even if it begins dearer, where the sums are the same
        PlotterPlanner z = new PlotterPlanner();
        z.addStroke(20, 0, 10, 0, 0);
        z.addStroke(10, 0, 20, 0, 0);
        Check.due("20: bestCost()", z.bestCost(), 60);
        Check.due("20: bestAt(0)", z.bestAt(0), 1);
        Check.due("20: bestAt(1)", z.bestAt(1), 3);
        PlotterPlanner w = new PlotterPlanner();
        w.addStroke(10, 10, 20, 10, 1);
        w.addStroke(10, 10, 20, 10, 0);
        Check.due("20: bestAt(0), any pen", w.bestAt(0), 0);
        Check.due("20: bestAt(1), back the way", w.bestAt(1), 3);
    }

    private static void promises19To21OfEightStrokes() {
        PlotterPlanner x = new PlotterPlanner();
        for (int stroke = 0; stroke < 8; stroke++) {
            x.addStroke(10 * stroke, 0, 10 * stroke + 5, 0, stroke % 2);
        }
        Check.due("19: cost()", x.cost(), 7 * 5 + 8 * 50);
        // pen 0 on the way out, pen 1 on the way back; stroke 7 costs the same either way
        Check.due("19: bestCost() of eight", x.bestCost(), 45 + 10 + 45 + 2 * 50);
        int[] codes = {0, 4, 8, 12, 14, 11, 7, 3};
        for (int position = 0; position < 8; position++) {
            Check.due("20: bestAt(" + position + ") of eight", x.bestAt(position), codes[position]);
        }
        Check.due("20: bestAt(8) of eight", x.bestAt(8), NONE);
        Check.due("21: adoptBest() of eight", x.adoptBest(), 200);
        Check.plan("21: adoptBest() of eight", x, codes);
        x.setPenCost(0);
        Check.due("21: adoptBest() without a pen cost", x.adoptBest(), 7 * 5);
        Check.plan("21: adoptBest() without a pen cost", x, 0, 2, 4, 6, 8, 10, 12, 14);
    }

    private static void promise21AdoptBest() {
        PlotterPlanner x = new PlotterPlanner();
        Check.due("21: adoptBest() of none", x.adoptBest(), 0);
        Check.due("21: undo(), an edit", x.undo(), 0);
        x.addStroke(30, 0, 40, 0, 0);
        x.addStroke(20, 0, 10, 0, 0);
        x.addStroke(41, 0, 43, 0, 1);
        Check.due("21: adoptBest()", x.adoptBest(), 10 + 10 + 1 + 100);
        Check.plan("21: adoptBest()", x, 3, 0, 4);
        Check.due("21: cost()", x.cost(), 121);
        Check.due("21: adoptBest() again", x.adoptBest(), 121);
        Check.due("21: undo()", x.undo(), 3);
        Check.due("21: undo()", x.undo(), 2);
        Check.plan("21: undone", x, 0, 2, 4);
    }

    private static void promise22AdoptNearest() {
        PlotterPlanner x = new PlotterPlanner();
        Check.due("22: adoptNearest() of none", x.adoptNearest(), 0);
        Check.due("22: undo(), an edit", x.undo(), 0);
        x.addStroke(40, 0, 30, 0, 0);
        x.addStroke(10, 0, 50, 0, 0);
        x.addStroke(51, 0, 60, 0, 1);
        x.addStroke(10, 10, 99, 20, 0);
        // (10, 0) is nearest; from (50, 0) pen 1 costs 51 and (40, 0) 10; from (30, 0) (10, 10) 20
        Check.due("22: adoptNearest()", x.adoptNearest(), 10 + 50 + 10 + 20 + 39 + 50);
        Check.plan("22: adoptNearest()", x, 2, 0, 6, 5);
        Check.due("22: cost()", x.cost(), 10 + 50 + 10 + 20 + 39 + 50);
        x.setPenCost(0);
        x.adoptNearest();
        Check.plan("22: adoptNearest() without a pen cost", x, 2, 4, 0, 6);
        Check.due("22: undo()", x.undo(), 3);
        Check.plan("22: undone", x, 2, 0, 6, 5);
        x.undo();
        Check.plan("22: undone twice", x, 0, 2, 4, 6);
    }

    private static void promise22AdoptNearestTies() {
        PlotterPlanner x = new PlotterPlanner();
        x.addStroke(50, 0, 50, 50, 0);
        x.addStroke(30, 0, 0, 30, 0);
        x.addStroke(0, 30, 30, 0, 1);
        x.addStroke(30, 30, 60, 60, 0);
        // strokes 1, 2 and 3 are 30 away: the lowest one, forward; from (0, 30) pen 1 costs 50
        x.adoptNearest();
        Check.plan("22: adoptNearest() of ties", x, 2, 6, 1, 5);
    }

    private static void promise23SetSquareLimit() {
        PlotterPlanner x = new PlotterPlanner();
        x.addStroke(0, 0, 99, 0, 0);
        x.addStroke(99, 0, 99, 99, 0);
        Check.due("23: setSquareLimit(9999)", x.setSquareLimit(9999), 400);
        Check.due("23: setSquareLimit(10000)", x.setSquareLimit(10000), WRONG);
        Check.due("23: setSquareLimit(0)", x.setSquareLimit(0), WRONG);
        Check.due("23: setSquareLimit(-1)", x.setSquareLimit(-1), WRONG);
        Check.due("23: setSquareLimit(least)", x.setSquareLimit(Integer.MIN_VALUE), WRONG);
        Check.due("23: setSquareLimit(greatest)", x.setSquareLimit(Integer.MAX_VALUE), WRONG);
        Check.due("23: peakSquare(0)", x.peakSquare(0), 990);
        Check.due("23: setSquareLimit(1)", x.setSquareLimit(1), 9999);
        Check.due("23: peakSquare(0)", x.peakSquare(0), 1);
        Check.due("23: undo(), no edit", x.undo(), 1);
        Check.due("23: setSquareLimit(2) behind undo", x.setSquareLimit(2), 1);
    }

    private static void promise24SetAcceleration() {
        PlotterPlanner x = new PlotterPlanner();
        x.addStroke(0, 0, 2, 0, 0);
        x.addStroke(2, 0, 4, 0, 0);
        Check.due("24: setAcceleration(99)", x.setAcceleration(99), 10);
        Check.due("24: setAcceleration(100)", x.setAcceleration(100), WRONG);
        Check.due("24: setAcceleration(0)", x.setAcceleration(0), WRONG);
        Check.due("24: setAcceleration(-1)", x.setAcceleration(-1), WRONG);
        Check.due("24: setAcceleration(least)", x.setAcceleration(Integer.MIN_VALUE), WRONG);
        Check.due("24: setAcceleration(greatest)", x.setAcceleration(Integer.MAX_VALUE), WRONG);
        Check.due("24: endSquare(0)", x.endSquare(0), 396);
        Check.due("24: setAcceleration(1)", x.setAcceleration(1), 99);
        Check.due("24: endSquare(0)", x.endSquare(0), 4);
        Check.due("24: undo(), no edit", x.undo(), 1);
        Check.due("24: setAcceleration(2) behind undo", x.setAcceleration(2), 1);
    }

    private static void promise25CornerLimit() {
        PlotterPlanner x = new PlotterPlanner();
        Check.due("25: cornerLimit(0) of none", x.cornerLimit(0), WRONG);
        x.addStroke(10, 10, 12, 11, 0);
        Check.due("25: cornerLimit(0), the last one", x.cornerLimit(0), NONE);
        x.addStroke(12, 11, 18, 14, 0);
        x.addStroke(18, 14, 18, 15, 0);
        x.addStroke(17, 15, 18, 15, 0);
        x.addStroke(17, 15, 18, 15, 0);
        x.addStroke(18, 15, 18, 16, 0);
        x.addStroke(18, 16, 18, 18, 1);
        x.addStroke(18, 17, 18, 18, 1);
        x.turnPosition(3);
        x.turnPosition(7);
        x.setSquareLimit(407);
        Check.due("25: cornerLimit(0), straight on", x.cornerLimit(0), 407);
        Check.due("25: cornerLimit(1), an acute turn", x.cornerLimit(1), 101);
        Check.due("25: cornerLimit(2), a right angle", x.cornerLimit(2), 0);
        Check.due("25: cornerLimit(3), straight back", x.cornerLimit(3), 0);
        Check.due("25: cornerLimit(4), a right angle", x.cornerLimit(4), 0);
        Check.due("25: cornerLimit(5), another pen", x.cornerLimit(5), NONE);
        Check.due("25: cornerLimit(6), straight back", x.cornerLimit(6), 0);
        Check.due("25: cornerLimit(7), the last one", x.cornerLimit(7), NONE);
        for (int far : FAR_OUT) {
            Check.due("25: cornerLimit(" + far + ")", x.cornerLimit(far), WRONG);
        }
        x.removeStroke(7);
        Check.due("25: cornerLimit(7) of seven", x.cornerLimit(7), WRONG);
        x.setSquareLimit(3);
        Check.due("25: cornerLimit(1), rounded down", x.cornerLimit(1), 0);
        PlotterPlanner y = new PlotterPlanner();
        y.addStroke(50, 50, 60, 50, 0);
        y.addStroke(60, 50, 50, 60, 0);
        Check.due("25: cornerLimit(0), an obtuse turn", y.cornerLimit(0), 0);
        PlotterPlanner z = new PlotterPlanner();
        z.addStroke(0, 0, 1, 0, 0);
        z.addStroke(1, 0, 2, 99, 0);
        Check.due("25: cornerLimit(0), a scalar product of 1", z.cornerLimit(0), 100);
    }

    private static void promise26EndSquare() {
        PlotterPlanner x = new PlotterPlanner();
        Check.due("26: endSquare(0) of none", x.endSquare(0), WRONG);
        x.addStroke(0, 0, 5, 0, 0);
        Check.due("26: endSquare(0) of one", x.endSquare(0), 0);
        x.addStroke(5, 0, 10, 0, 0);
        x.addStroke(10, 0, 90, 0, 0);
        x.addStroke(90, 0, 93, 0, 0);
        x.addStroke(93, 0, 95, 0, 0);
        x.addStroke(95, 0, 99, 4, 1);
        Check.due("26: endSquare(0), speeding up", x.endSquare(0), 100);
        Check.due("26: endSquare(1), speeding up", x.endSquare(1), 200);
        Check.due("26: endSquare(2), slowing down", x.endSquare(2), 100);
        Check.due("26: endSquare(3), slowing down", x.endSquare(3), 40);
        Check.due("26: endSquare(4), end of the run", x.endSquare(4), 0);
        Check.due("26: endSquare(5), end of the plan", x.endSquare(5), 0);
        x.setAcceleration(99);
        Check.due("26: endSquare(1), the corner", x.endSquare(1), 400);
        Check.due("26: endSquare(6) of six", x.endSquare(6), WRONG);
        for (int far : FAR_OUT) {
            Check.due("26: endSquare(" + far + ")", x.endSquare(far), WRONG);
        }
        PlotterPlanner y = new PlotterPlanner();
        y.addStroke(10, 10, 12, 13, 0);
        y.addStroke(12, 13, 12, 99, 0);
        Check.due("26: endSquare(0), the greater way", y.endSquare(0), 60);
        y.setSquareLimit(100);
        Check.due("26: endSquare(0), a turn", y.endSquare(0), 25);
    }

    private static void promise27PeakSquare() {
        PlotterPlanner x = new PlotterPlanner();
        Check.due("27: peakSquare(0) of none", x.peakSquare(0), WRONG);
        x.addStroke(0, 0, 5, 0, 0);
        Check.due("27: peakSquare(0) of one", x.peakSquare(0), 50);
        x.addStroke(5, 0, 10, 0, 0);
        x.addStroke(10, 0, 90, 0, 0);
        x.addStroke(90, 0, 93, 0, 0);
        x.addStroke(93, 0, 95, 0, 0);
        x.addStroke(95, 0, 97, 3, 1);
        Check.due("27: peakSquare(0)", x.peakSquare(0), 100);
        Check.due("27: peakSquare(1)", x.peakSquare(1), 200);
        Check.due("27: peakSquare(2), the limit", x.peakSquare(2), 400);
        Check.due("27: peakSquare(3)", x.peakSquare(3), 100);
        Check.due("27: peakSquare(4)", x.peakSquare(4), 40);
        Check.due("27: peakSquare(5), a run of one", x.peakSquare(5), 30);
        x.setSquareLimit(9999);
        Check.due("27: peakSquare(2), below the limit", x.peakSquare(2), (200 + 100 + 1600) / 2);
        Check.due("27: peakSquare(6) of six", x.peakSquare(6), WRONG);
        for (int far : FAR_OUT) {
            Check.due("27: peakSquare(" + far + ")", x.peakSquare(far), WRONG);
        }
        PlotterPlanner y = new PlotterPlanner();
        y.addStroke(0, 0, 40, 0, 0);
        y.addStroke(40, 0, 42, 1, 0);
        y.setSquareLimit(60);
        Check.due("27: endSquare(0)", y.endSquare(0), 15);
        y.setAcceleration(2);
        Check.due("27: endSquare(0)", y.endSquare(0), 8);
        y.setAcceleration(7);
        Check.due("27: peakSquare(1), rounded down", y.peakSquare(1), (15 + 28) / 2);
    }

    private static void promises26And27OfEightPositions() {
        PlotterPlanner x = new PlotterPlanner();
        x.setSquareLimit(9999);
        for (int stroke = 0; stroke < 8; stroke++) {
            x.addStroke(10 * stroke, 1, 10 * stroke + 10, 1, 0);
        }
        Check.due("17: runLength(0) of eight", x.runLength(0), 8);
        int[] ends = {200, 400, 600, 800, 600, 400, 200, 0};
        for (int position = 0; position < 8; position++) {
            int begin = position == 0 ? 0 : ends[position - 1];
            Check.due("26: endSquare(" + position + ") of eight",
                    x.endSquare(position), ends[position]);
            Check.due("27: peakSquare(" + position + ") of eight",
                    x.peakSquare(position), (begin + ends[position] + 200) / 2);
        }
    }

    private static void promise28Undo() {
        PlotterPlanner x = new PlotterPlanner();
        Check.due("28: undo() of none", x.undo(), NONE);
        for (int stroke = 0; stroke < 6; stroke++) {
            x.addStroke(stroke, 0, stroke, 9, 0);
        }
        Check.due("28: undo()", x.undo(), 3);
        Check.due("28: undo()", x.undo(), 2);
        Check.plan("28: undo() twice", x, 0, 2, 4, 6);
        x.turnPosition(3);
        Check.due("28: undo() of a turn", x.undo(), 2);
        Check.plan("28: undo() of a turn", x, 0, 2, 4, 6);
        x.turnPosition(0);
        x.turnPosition(1);
        x.turnPosition(2);
        Check.due("28: undo(), no more than four", x.undo(), 3);
        Check.due("28: undo()", x.undo(), 2);
        Check.due("28: undo()", x.undo(), 1);
        Check.due("28: undo()", x.undo(), 0);
        Check.plan("28: undo() to the end", x, 0, 2, 4);
        Check.due("28: undo() beyond", x.undo(), NONE);
        Check.plan("28: undo() beyond", x, 0, 2, 4);
        Check.due("28: addStroke", x.addStroke(9, 9, 1, 1, 2), 3);
        Check.due("28: undo()", x.undo(), 0);
        Check.due("28: undo()", x.undo(), NONE);
    }

    private static void promise28UndoOfEachEdit() {
        PlotterPlanner x = new PlotterPlanner();
        x.addStroke(60, 60, 40, 40, 3);
        x.addStroke(10, 10, 20, 10, 1);
        x.addStroke(20, 10, 10, 10, 1);
        x.turnPosition(2);
        Check.plan("28: before", x, 0, 2, 5);
        for (int edit = 0; edit < 7; edit++) {
            int want = new int[] {3, 2, 0, 1, 140, 140, 1}[edit];
            Check.due("28: edit " + edit, doEdit(x, edit), want);
            Check.due("28: undo() of edit " + edit, x.undo(), 3);
            Check.plan("28: undo() of edit " + edit, x, 0, 2, 5);
            Check.due("28: penOf(0)", x.penOf(0), 3);
            Check.due("28: penOf(2)", x.penOf(2), 1);
            Check.due("28: alikeTo(2)", x.alikeTo(2), 1);
            Check.due("28: cost()", x.cost(), 60 + 50 + 30 + 50 + 10);
            Check.due("28: bestCost()", x.bestCost(), 140);
            x.turnPosition(2);
            x.turnPosition(2);
        }
    }

    private static int doEdit(PlotterPlanner x, int edit) {
        return switch (edit) {
            case 0 -> x.addStroke(1, 1, 2, 2, 0);
            case 1 -> x.removeStroke(0);
            case 2 -> x.movePosition(0, 2);
            case 3 -> x.turnPosition(1);
            case 4 -> x.adoptBest();
            case 5 -> x.adoptNearest();
            default -> x.removeDuplicates();
        };
    }

    private static void promise28UndoLeavesTheSettings() {
        PlotterPlanner x = new PlotterPlanner();
        x.setPenCost(1);
        x.setSquareLimit(2);
        x.setAcceleration(3);
        x.addStroke(10, 0, 30, 0, 1);
        x.setPenCost(4);
        x.setSquareLimit(5);
        x.setAcceleration(6);
        x.turnPosition(0);
        Check.due("28: undo()", x.undo(), 1);
        Check.due("28: cost()", x.cost(), 14);
        Check.due("28: bestCost()", x.bestCost(), 14);
        Check.due("28: undo()", x.undo(), 0);
        Check.due("28: bestCost()", x.bestCost(), 0);
        Check.due("28: setPenCost(0)", x.setPenCost(0), 4);
        Check.due("28: setSquareLimit(1)", x.setSquareLimit(1), 5);
        Check.due("28: setAcceleration(1)", x.setAcceleration(1), 6);
        Check.due("28: undo(), settings are no edits", x.undo(), NONE);
    }

    private static void promise28ErrorsAreNoEdits() {
        PlotterPlanner x = new PlotterPlanner();
        for (int stroke = 0; stroke < 8; stroke++) {
            x.addStroke(stroke, 0, stroke, 9, 0);
        }
        Check.due("28: undo()", x.undo(), 3);
        Check.due("28: undo()", x.undo(), 2);
        x.addStroke(1, 1, 1, 1, 0);
        x.removeStroke(6);
        x.movePosition(0, 6);
        x.movePosition(6, 0);
        x.turnPosition(-1);
        Check.due("28: undo() behind errors", x.undo(), 1);
        Check.plan("28: undo() behind errors", x, 0, 2, 4, 6, 8);
        Check.due("28: undo() behind errors", x.undo(), 0);
    }
}
