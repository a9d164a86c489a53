import java.util.function.Supplier;

/**
 * Promises 10 to 17 at their edges: a test for each sentence of the document that names one. The
 * sentence stands above the test, the promise in its name.
 */
public final class PlanEdgesTest {
    private static final int WRONG = Sample.WRONG;
    private static final int NONE = Sample.NONE;
    private static final int[] NEGATIVE = Sample.NEGATIVE;
    private static final int[] BEYOND = Sample.BEYOND;

    private PlanEdgesTest() {
    }

    public static void main(String[] args) {
        reading();
        moving();
        turning();
        costs();
        changes();
        runs();
        lengths();
        Check.finish();
    }

    // Promises 10 and 11

    private static void reading() {
        promise10And11RefuseANegativePosition();
        promise10And11FindNoneBeyondTheEnd();
        promise10And11TakeTheFirstAndTheLastPosition();
        promise10And11FollowTheNumberOfStrokes();
        promise10And11AreNoEdits();
        promise10And11HoldEachStrokeOnce();
    }

    // "INVALID_ARGUMENT if position is negative", though there is no such position, either
    private static void promise10And11RefuseANegativePosition() {
        for (int position : NEGATIVE) {
            String stroke = "10: strokeAt(" + position + ")";
            Sample.refused(stroke, Sample::none, x -> x.strokeAt(position), WRONG);
            Sample.refused(stroke, Sample::three, x -> x.strokeAt(position), WRONG);
            Sample.refused(stroke, Sample::eight, x -> x.strokeAt(position), WRONG);
            String direction = "11: directionAt(" + position + ")";
            Sample.refused(direction, Sample::none, x -> x.directionAt(position), WRONG);
            Sample.refused(direction, Sample::three, x -> x.directionAt(position), WRONG);
            Sample.refused(direction, Sample::eight, x -> x.directionAt(position), WRONG);
        }
    }

    // "NOT_FOUND if there is no such position"
    private static void promise10And11FindNoneBeyondTheEnd() {
        for (int position : BEYOND) {
            String stroke = "10: strokeAt(" + position + ")";
            Sample.refused(stroke, Sample::none, x -> x.strokeAt(position), NONE);
            Sample.refused(stroke, Sample::three, x -> x.strokeAt(position), NONE);
            Sample.refused(stroke, Sample::eight, x -> x.strokeAt(position), NONE);
            String direction = "11: directionAt(" + position + ")";
            Sample.refused(direction, Sample::none, x -> x.directionAt(position), NONE);
            Sample.refused(direction, Sample::three, x -> x.directionAt(position), NONE);
            Sample.refused(direction, Sample::eight, x -> x.directionAt(position), NONE);
        }
        Sample.refused("10: strokeAt(0) of none", Sample::none, x -> x.strokeAt(0), NONE);
        Sample.refused("11: directionAt(0) of none", Sample::none, x -> x.directionAt(0), NONE);
        Sample.refused("10: strokeAt(3) of three", Sample::three, x -> x.strokeAt(3), NONE);
        Sample.refused("11: directionAt(3) of three", Sample::three, x -> x.directionAt(3), NONE);
    }

    // "Its positions are numbered from 0."
    private static void promise10And11TakeTheFirstAndTheLastPosition() {
        Check.due("10: strokeAt(0) of eight", Sample.eight().strokeAt(0), 7);
        Check.due("11: directionAt(0) of eight", Sample.eight().directionAt(0), 1);
        Check.due("10: strokeAt(7) of eight", Sample.eight().strokeAt(7), 6);
        Check.due("11: directionAt(7) of eight", Sample.eight().directionAt(7), 1);
        Check.due("10: strokeAt(2) of three", Sample.three().strokeAt(2), 2);
        Check.due("11: directionAt(2) of three", Sample.three().directionAt(2), 0);
        Check.plan("10, 11: of eight", Sample.eight(), 15, 0, 2, 6, 4, 8, 10, 13);
    }

    private static void promise10And11FollowTheNumberOfStrokes() {
        PlotterPlanner x = Sample.row(0);
        x.turnPosition(7);
        x.removeStroke(7);
        Check.due("10: strokeAt(7) of seven", x.strokeAt(7), NONE);
        Check.due("11: directionAt(7) of seven", x.directionAt(7), NONE);
        x.undo();
        Check.due("10: strokeAt(7) of eight again", x.strokeAt(7), 7);
        Check.due("11: directionAt(7) of eight again", x.directionAt(7), 1);
    }

    private static void promise10And11AreNoEdits() {
        Sample.isNoEdit("10: strokeAt(0)", Sample::three, x -> x.strokeAt(0));
        Sample.isNoEdit("10: strokeAt(7)", Sample::eight, x -> x.strokeAt(7));
        Sample.isNoEdit("11: directionAt(0)", Sample::three, x -> x.directionAt(0));
        Sample.isNoEdit("11: directionAt(7)", Sample::eight, x -> x.directionAt(7));
    }

    // "The plan contains each stroke exactly once.", behind each edit and each undo
    private static void promise10And11HoldEachStrokeOnce() {
        holdsEachStrokeOnce("a new object", Sample.none());
        for (Supplier<PlotterPlanner> state : Sample.STATES) {
            for (int edit = 0; edit < 7; edit++) {
                PlotterPlanner x = state.get();
                int last = x.strokeCount() - 1;
                for (int times = 1; times <= 3; times++) {
                    edit(x, edit, last);
                    holdsEachStrokeOnce("edit " + edit + ", " + times + " times", x);
                }
                x.undo();
                x.undo();
                holdsEachStrokeOnce("edit " + edit + ", undone twice", x);
                x.undo();
                holdsEachStrokeOnce("edit " + edit + ", undone three times", x);
            }
        }
    }

    private static int edit(PlotterPlanner x, int edit, int last) {
        return switch (edit) {
            case 0 -> x.addStroke(9, 8, 7, 6, 1);
            case 1 -> x.removeStroke(last / 2);
            case 2 -> x.movePosition(0, last);
            case 3 -> x.turnPosition(last);
            case 4 -> x.adoptBest();
            case 5 -> x.adoptNearest();
            default -> x.removeDuplicates();
        };
    }

    private static void holdsEachStrokeOnce(String name, PlotterPlanner x) {
        int count = x.strokeCount();
        int[] found = new int[8];
        for (int position = 0; position < count; position++) {
            int stroke = x.strokeAt(position);
            boolean known = stroke >= 0 && stroke < count;
            Check.due("10: " + name + ": strokeAt(" + position + ") is one", known ? 1 : 0, 1);
            found[known ? stroke : 0]++;
            int direction = x.directionAt(position);
            Check.due("11: " + name + ": directionAt(" + position + ") is one",
                    direction == 0 || direction == 1 ? 1 : 0, 1);
        }
        for (int stroke = 0; stroke < count; stroke++) {
            Check.due("10: " + name + ": stroke " + stroke + " in the plan", found[stroke], 1);
        }
        Check.due("10: " + name + ": strokeAt(end)", x.strokeAt(count), NONE);
        Check.due("11: " + name + ": directionAt(end)", x.directionAt(count), NONE);
    }

    // Promise 12

    private static void moving() {
        promise12RefusesPositionsThatAreNone();
        promise12TakesTheFirstAndTheLastPosition();
        promise12MovesTheOnesBetween();
        promise12MovesTheDirection();
        promise12ToItsOwnPlaceIsAnEdit();
        promise12IsUndone();
    }

    // "INVALID_ARGUMENT if an argument is out of range"
    private static void promise12RefusesPositionsThatAreNone() {
        promise12Refuses(NEGATIVE);
        promise12Refuses(BEYOND);
        Sample.refused("12: (0, 0) of none", Sample::none, x -> x.movePosition(0, 0), WRONG);
        Sample.refused("12: (3, 0) of three", Sample::three, x -> x.movePosition(3, 0), WRONG);
        Sample.refused("12: (0, 3) of three", Sample::three, x -> x.movePosition(0, 3), WRONG);
        Sample.refused("12: (3, 3) of three", Sample::three, x -> x.movePosition(3, 3), WRONG);
        PlotterPlanner x = Sample.row(0);
        x.removeStroke(0);
        Check.due("12: (7, 0) of seven", x.movePosition(7, 0), WRONG);
        Check.due("12: (0, 7) of seven", x.movePosition(0, 7), WRONG);
    }

    private static void promise12Refuses(int[] positions) {
        for (int far : positions) {
            String from = "12: (" + far + ", 0)";
            Sample.refused(from, Sample::none, x -> x.movePosition(far, 0), WRONG);
            Sample.refused(from, Sample::three, x -> x.movePosition(far, 0), WRONG);
            Sample.refused(from, Sample::eight, x -> x.movePosition(far, 0), WRONG);
            String to = "12: (0, " + far + ")";
            Sample.refused(to, Sample::none, x -> x.movePosition(0, far), WRONG);
            Sample.refused(to, Sample::three, x -> x.movePosition(0, far), WRONG);
            Sample.refused(to, Sample::eight, x -> x.movePosition(0, far), WRONG);
            Sample.refused("12: (" + far + ", " + far + ")", Sample::eight,
                    x -> x.movePosition(far, far), WRONG);
        }
    }

    // "Moves a stroke with its direction to another position": from one end to the other
    private static void promise12TakesTheFirstAndTheLastPosition() {
        PlotterPlanner x = Sample.row(0);
        Check.due("12: (0, 7)", x.movePosition(0, 7), 0);
        Check.plan("12: (0, 7)", x, 2, 4, 6, 8, 10, 12, 14, 0);
        PlotterPlanner y = Sample.row(0);
        Check.due("12: (7, 0)", y.movePosition(7, 0), 7);
        Check.plan("12: (7, 0)", y, 14, 0, 2, 4, 6, 8, 10, 12);
        PlotterPlanner z = Sample.row(0);
        Check.due("12: (6, 7)", z.movePosition(6, 7), 6);
        Check.plan("12: (6, 7)", z, 0, 2, 4, 6, 8, 10, 14, 12);
        Check.due("12: (1, 0)", z.movePosition(1, 0), 1);
        Check.plan("12: (1, 0)", z, 2, 0, 4, 6, 8, 10, 14, 12);
        PlotterPlanner w = Sample.three();
        Check.due("12: (0, 2) of three", w.movePosition(0, 2), 0);
        Check.plan("12: (0, 2) of three", w, 2, 4, 0);
        Check.due("12: (2, 0) of three", w.movePosition(2, 0), 0);
        Check.plan("12: (2, 0) of three", w, 0, 2, 4);
    }

    // "the positions between both move by one"; the ones that are not between stay
    private static void promise12MovesTheOnesBetween() {
        PlotterPlanner x = Sample.row(0);
        Check.due("12: (2, 5)", x.movePosition(2, 5), 2);
        Check.plan("12: (2, 5)", x, 0, 2, 6, 8, 10, 4, 12, 14);
        Check.due("12: (5, 2)", x.movePosition(5, 2), 2);
        Check.plan("12: (5, 2)", x, 0, 2, 4, 6, 8, 10, 12, 14);
        Check.due("12: (3, 4)", x.movePosition(3, 4), 3);
        Check.plan("12: (3, 4)", x, 0, 2, 4, 8, 6, 10, 12, 14);
        Check.due("12: (4, 3)", x.movePosition(4, 3), 3);
        Check.plan("12: (4, 3)", x, 0, 2, 4, 6, 8, 10, 12, 14);
        // the positions are those of the plan, not the numbers of the strokes
        x.movePosition(7, 0);
        Check.due("12: (0, 1), a position", x.movePosition(0, 1), 7);
        Check.plan("12: (0, 1), a position", x, 0, 14, 2, 4, 6, 8, 10, 12);
    }

    private static void promise12MovesTheDirection() {
        PlotterPlanner x = Sample.row(0);
        x.turnPosition(0);
        x.turnPosition(7);
        x.movePosition(0, 3);
        Check.plan("12: (0, 3)", x, 2, 4, 6, 1, 8, 10, 12, 15);
        x.movePosition(7, 2);
        Check.plan("12: (7, 2)", x, 2, 4, 15, 6, 1, 8, 10, 12);
        x.movePosition(4, 2);
        Check.plan("12: (4, 2)", x, 2, 4, 1, 15, 6, 8, 10, 12);
    }

    // "An edit that changes nothing is an edit, too."
    private static void promise12ToItsOwnPlaceIsAnEdit() {
        for (int position = 0; position < 8; position++) {
            int here = position;
            Sample.idleEdit("12: (" + here + ", " + here + ") of eight", Sample::eight,
                    x -> x.movePosition(here, here),
                    new int[] {7, 0, 1, 3, 2, 4, 5, 6}[position]);
        }
        Sample.idleEdit("12: (0, 0) of three", Sample::three, x -> x.movePosition(0, 0), 0);
        Sample.idleEdit("12: (2, 2) of three", Sample::three, x -> x.movePosition(2, 2), 2);
    }

    private static void promise12IsUndone() {
        Sample.undoneEdit("12: (0, 7)", Sample::eight, x -> x.movePosition(0, 7), 7);
        Sample.undoneEdit("12: (7, 0)", Sample::eight, x -> x.movePosition(7, 0), 6);
        Sample.undoneEdit("12: (0, 2)", Sample::three, x -> x.movePosition(0, 2), 0);
    }

    // Promise 13

    private static void turning() {
        promise13RefusesAPositionThatIsNone();
        promise13TakesTheFirstAndTheLastPosition();
        promise13TurnsBack();
        promise13IsUndone();
    }

    // "INVALID_ARGUMENT if position is out of range"
    private static void promise13RefusesAPositionThatIsNone() {
        promise13Refuses(NEGATIVE);
        promise13Refuses(BEYOND);
        Sample.refused("13: turnPosition(0) of none", Sample::none, x -> x.turnPosition(0), WRONG);
        Sample.refused("13: turnPosition(3) of three", Sample::three,
                x -> x.turnPosition(3), WRONG);
        PlotterPlanner x = Sample.row(0);
        x.removeStroke(0);
        Check.due("13: turnPosition(7) of seven", x.turnPosition(7), WRONG);
    }

    private static void promise13Refuses(int[] positions) {
        for (int far : positions) {
            String name = "13: turnPosition(" + far + ")";
            Sample.refused(name, Sample::none, x -> x.turnPosition(far), WRONG);
            Sample.refused(name, Sample::three, x -> x.turnPosition(far), WRONG);
            Sample.refused(name, Sample::eight, x -> x.turnPosition(far), WRONG);
        }
    }

    // "position: an existing position"
    private static void promise13TakesTheFirstAndTheLastPosition() {
        PlotterPlanner x = Sample.row(0);
        Check.due("13: turnPosition(0)", x.turnPosition(0), 1);
        Check.due("13: turnPosition(7)", x.turnPosition(7), 1);
        Check.plan("13: both ends", x, 1, 2, 4, 6, 8, 10, 12, 15);
        PlotterPlanner y = Sample.three();
        Check.due("13: turnPosition(2) of three", y.turnPosition(2), 1);
        Check.plan("13: turnPosition(2) of three", y, 0, 2, 5);
        PlotterPlanner z = Sample.row(0);
        z.movePosition(7, 0);
        Check.due("13: turnPosition(0), a position", z.turnPosition(0), 1);
        Check.plan("13: turnPosition(0), a position", z, 15, 0, 2, 4, 6, 8, 10, 12);
    }

    // "Returns the new direction"
    private static void promise13TurnsBack() {
        PlotterPlanner x = Sample.row(0);
        for (int position = 0; position < 8; position++) {
            Check.due("13: turnPosition(" + position + ")", x.turnPosition(position), 1);
        }
        Check.plan("13: all", x, 1, 3, 5, 7, 9, 11, 13, 15);
        for (int position = 0; position < 8; position++) {
            Check.due("13: turnPosition(" + position + ") back", x.turnPosition(position), 0);
        }
        Check.plan("13: all back", x, 0, 2, 4, 6, 8, 10, 12, 14);
        Check.due("13: undo() of the last one", x.undo(), 3);
        Check.plan("13: undo() of the last one", x, 0, 2, 4, 6, 8, 10, 12, 15);
    }

    private static void promise13IsUndone() {
        Sample.undoneEdit("13: turnPosition(0)", Sample::three, x -> x.turnPosition(0), 1);
        Sample.undoneEdit("13: turnPosition(0)", Sample::eight, x -> x.turnPosition(0), 0);
        Sample.undoneEdit("13: turnPosition(7)", Sample::eight, x -> x.turnPosition(7), 0);
    }

    // Promise 14

    private static void costs() {
        promise14IsNothingWithoutStrokes();
        promise14BeginsAtTheOrigin();
        promise14BeginsWithNoPen();
        promise14TakesTheGreaterDifference();
        promise14LeavesOutTheStrokes();
        promise14IsGreatestWithEightStrokes();
        promise14TakesThePenCostsEnds();
        Sample.isNoEdit("14: cost()", Sample::three, x -> x.cost());
        Sample.isNoEdit("14: cost()", Sample::eight, x -> x.cost());
    }

    private static void promise14IsNothingWithoutStrokes() {
        PlotterPlanner x = new PlotterPlanner();
        Check.due("14: cost() of none", x.cost(), 0);
        x.setPenCost(500);
        Check.due("14: cost() of none, the highest pen cost", x.cost(), 0);
        x.addStroke(99, 99, 0, 0, 3);
        x.removeStroke(0);
        Check.due("14: cost() of none again", x.cost(), 0);
    }

    // "The plotter begins at the point (0, 0)"
    private static void promise14BeginsAtTheOrigin() {
        PlotterPlanner x = new PlotterPlanner();
        x.setPenCost(0);
        x.addStroke(0, 0, 99, 98, 0);
        Check.due("14: cost() from (0, 0)", x.cost(), 0);
        x.turnPosition(0);
        Check.due("14: cost() from (99, 98)", x.cost(), 99);
        x.addStroke(1, 0, 0, 1, 0);
        Check.due("14: cost() with (1, 0) behind (0, 0)", x.cost(), 99 + 1);
        x.movePosition(1, 0);
        Check.due("14: cost() with (1, 0) first", x.cost(), 1 + 99);
    }

    // "with no pen"; "the pen cost C .. (also for position 0)"
    private static void promise14BeginsWithNoPen() {
        for (int pen = 0; pen < 4; pen++) {
            PlotterPlanner x = new PlotterPlanner();
            x.addStroke(0, 0, 5, 5, pen);
            Check.due("14: cost() of pen " + pen, x.cost(), 50);
            x.addStroke(5, 5, 0, 0, pen);
            Check.due("14: cost() of pen " + pen + " twice", x.cost(), 50);
            x.addStroke(0, 0, 5, 5, 3 - pen);
            Check.due("14: cost() with pen " + (3 - pen), x.cost(), 100);
            x.addStroke(5, 5, 0, 0, pen);
            Check.due("14: cost() with pen " + pen + " again", x.cost(), 150);
        }
    }

    // "the greater one of |x - x'| and |y - y'|"
    private static void promise14TakesTheGreaterDifference() {
        int[][] ways = {{50, 50, 0}, {51, 50, 1}, {49, 50, 1}, {50, 51, 1}, {50, 49, 1},
            {53, 53, 3}, {47, 47, 3}, {47, 53, 3}, {53, 46, 4}, {46, 53, 4}, {54, 47, 4},
            {47, 54, 4}, {99, 50, 49}, {50, 99, 49}, {0, 50, 50}, {50, 0, 50}, {0, 99, 50}};
        for (int[] way : ways) {
            PlotterPlanner x = new PlotterPlanner();
            x.addStroke(0, 0, 50, 50, 0);
            x.addStroke(way[0], way[1], 7, 7, 0);
            Check.due("14: the way to " + way[0] + ", " + way[1], x.cost(), 50 + way[2]);
        }
    }

    // "The lengths of the strokes themselves are not counted."
    private static void promise14LeavesOutTheStrokes() {
        PlotterPlanner x = new PlotterPlanner();
        x.addStroke(0, 0, 99, 99, 0);
        x.addStroke(99, 99, 0, 50, 0);
        x.addStroke(0, 50, 99, 0, 0);
        Check.due("14: cost() without travel", x.cost(), 50);
    }

    private static void promise14IsGreatestWithEightStrokes() {
        PlotterPlanner x = new PlotterPlanner();
        x.setPenCost(500);
        for (int stroke = 0; stroke < 8; stroke++) {
            x.addStroke(99, 99, 0, 0, stroke % 4);
        }
        Check.due("14: the greatest cost()", x.cost(), 8 * 99 + 8 * 500);
        Check.due("14: setPenCost(0)", x.setPenCost(0), 500);
        Check.due("14: the greatest travel", x.cost(), 8 * 99);
        for (int position = 0; position < 8; position += 2) {
            x.turnPosition(position);
        }
        Check.due("14: no travel", x.cost(), 0);
    }

    // "The pen cost C is from 0 to 500"
    private static void promise14TakesThePenCostsEnds() {
        PlotterPlanner x = Sample.row(0);
        x.setPenCost(0);
        Check.due("14: cost() for 0", x.cost(), 5);
        x.setPenCost(1);
        Check.due("14: cost() for 1", x.cost(), 6);
        x.setPenCost(500);
        Check.due("14: cost() for 500", x.cost(), 505);
    }

    // Promise 15

    private static void changes() {
        promise15IsNoneWithoutStrokes();
        promise15CountsPositionZero();
        promise15CountsUpToEight();
        promise15CountsWhatCostsNothing();
        Sample.isNoEdit("15: penChanges()", Sample::three, x -> x.penChanges());
        Sample.isNoEdit("15: penChanges()", Sample::eight, x -> x.penChanges());
    }

    private static void promise15IsNoneWithoutStrokes() {
        PlotterPlanner x = new PlotterPlanner();
        Check.due("15: penChanges() of none", x.penChanges(), 0);
        x.addStroke(1, 2, 3, 4, 2);
        x.removeStroke(0);
        Check.due("15: penChanges() of none again", x.penChanges(), 0);
    }

    // "(also for position 0)"
    private static void promise15CountsPositionZero() {
        for (int pen = 0; pen < 4; pen++) {
            PlotterPlanner x = new PlotterPlanner();
            x.addStroke(1, 2, 3, 4, pen);
            Check.due("15: penChanges() of one with pen " + pen, x.penChanges(), 1);
        }
    }

    // "each position whose stroke has another pen than the stroke at the position before"
    private static void promise15CountsUpToEight() {
        for (int pen = 0; pen < 4; pen++) {
            Check.due("15: a row of pen " + pen, Sample.row(pen).penChanges(), 1);
        }
        PlotterPlanner x = new PlotterPlanner();
        for (int stroke = 0; stroke < 8; stroke++) {
            x.addStroke(1, 2, 3, 4, stroke % 2 * 3);
        }
        Check.due("15: each position another pen", x.penChanges(), 8);
        x.movePosition(7, 1);
        Check.due("15: the last one moved to its like", x.penChanges(), 7);
        x.adoptBest();
        Check.due("15: the best plan's", x.penChanges(), 2);
        PlotterPlanner y = Sample.row(1);
        y.removeStroke(7);
        y.addStroke(1, 2, 3, 4, 0);
        Check.due("15: the last position another pen", y.penChanges(), 2);
    }

    // "the number of positions that cause the pen cost", even if it is 0
    private static void promise15CountsWhatCostsNothing() {
        PlotterPlanner x = Sample.eight();
        Check.due("15: penChanges() of eight", x.penChanges(), 3);
        x.setPenCost(0);
        Check.due("15: penChanges() for 0", x.penChanges(), 3);
        x.setPenCost(500);
        Check.due("15: penChanges() for 500", x.penChanges(), 3);
    }

    // Promise 16

    private static void runs() {
        promise16IsNoneWithoutStrokes();
        promise16IsFrom1To8();
        promise16LinksTheSamePenAndPointAlone();
        promise16LinksInTheDirectionsOfThePlan();
        Sample.isNoEdit("16: runCount()", Sample::three, x -> x.runCount());
        Sample.isNoEdit("16: runCount()", Sample::eight, x -> x.runCount());
    }

    private static void promise16IsNoneWithoutStrokes() {
        PlotterPlanner x = new PlotterPlanner();
        Check.due("16: runCount() of none", x.runCount(), 0);
        x.addStroke(0, 0, 1, 1, 0);
        Check.due("16: runCount() of one", x.runCount(), 1);
        x.removeStroke(0);
        Check.due("16: runCount() of none again", x.runCount(), 0);
    }

    // "A run is a maximal sequence of positions in which each two neighbouring ones are linked."
    private static void promise16IsFrom1To8() {
        PlotterPlanner x = Sample.row(3);
        Check.due("16: runCount() of a row", x.runCount(), 1);
        for (int position = 0; position < 7; position++) {
            x.turnPosition(position);
            Check.due("16: runCount(), turned up to " + position, x.runCount(),
                    position == 0 ? 2 : position + 2);
        }
        x.turnPosition(7);
        Check.due("16: runCount(), all turned", x.runCount(), 8);
        PlotterPlanner y = new PlotterPlanner();
        for (int stroke = 0; stroke < 8; stroke++) {
            y.addStroke(stroke, 0, stroke, 9, 0);
            Check.due("16: runCount() of apart ones", y.runCount(), stroke + 1);
        }
    }

    private static int runsOfTwo(int x1, int y1, int x2, int y2, int pen) {
        PlotterPlanner x = new PlotterPlanner();
        x.addStroke(10, 20, 30, 40, 2);
        x.addStroke(x1, y1, x2, y2, pen);
        return x.runCount();
    }

    // "if they have the same pen and the second one begins where the first one ends"
    private static void promise16LinksTheSamePenAndPointAlone() {
        Check.due("16: the same pen and point", runsOfTwo(30, 40, 50, 60, 2), 1);
        Check.due("16: back the way", runsOfTwo(30, 40, 10, 20, 2), 1);
        Check.due("16: a lower pen", runsOfTwo(30, 40, 50, 60, 1), 2);
        Check.due("16: a higher pen", runsOfTwo(30, 40, 50, 60, 3), 2);
        Check.due("16: another x", runsOfTwo(31, 40, 50, 60, 2), 2);
        Check.due("16: another y", runsOfTwo(30, 39, 50, 60, 2), 2);
        Check.due("16: it ends where the first one ends", runsOfTwo(50, 60, 30, 40, 2), 2);
        Check.due("16: it begins where the first one begins", runsOfTwo(10, 20, 50, 60, 2), 2);
        Check.due("16: it ends where the first one begins", runsOfTwo(50, 60, 10, 20, 2), 2);
        Check.due("16: x and y exchanged", runsOfTwo(40, 30, 50, 60, 2), 2);
        PlotterPlanner x = new PlotterPlanner();
        x.addStroke(5, 5, 0, 99, 0);
        x.addStroke(1, 0, 7, 7, 0);
        Check.due("16: (0, 99) and (1, 0)", x.runCount(), 2);
        PlotterPlanner y = new PlotterPlanner();
        y.addStroke(0, 0, 5, 5, 0);
        Check.due("16: the first position at (0, 0)", y.runCount(), 1);
    }

    private static void promise16LinksInTheDirectionsOfThePlan() {
        PlotterPlanner x = new PlotterPlanner();
        x.addStroke(30, 40, 10, 20, 0);
        x.addStroke(50, 60, 30, 40, 0);
        Check.due("16: forward both", x.runCount(), 2);
        x.turnPosition(0);
        Check.due("16: the first one turned", x.runCount(), 2);
        x.turnPosition(1);
        Check.due("16: both turned", x.runCount(), 1);
        x.movePosition(0, 1);
        Check.due("16: both turned, exchanged", x.runCount(), 2);
    }

    // Promise 17

    private static void lengths() {
        promise17RefusesANegativeRun();
        promise17FindsNoneBeyondTheLast();
        promise17TellsTheFirstAndTheLastRun();
        promise17IsFrom1To8();
        Sample.isNoEdit("17: runLength(0)", Sample::three, x -> x.runLength(0));
        Sample.isNoEdit("17: runLength(0)", Sample::eight, x -> x.runLength(0));
    }

    // "INVALID_ARGUMENT if run is negative", though there is no such run, either
    private static void promise17RefusesANegativeRun() {
        for (int run : NEGATIVE) {
            String name = "17: runLength(" + run + ")";
            Sample.refused(name, Sample::none, x -> x.runLength(run), WRONG);
            Sample.refused(name, Sample::three, x -> x.runLength(run), WRONG);
            Sample.refused(name, Sample::eight, x -> x.runLength(run), WRONG);
        }
    }

    // "NOT_FOUND if there is no such run"
    private static void promise17FindsNoneBeyondTheLast() {
        for (int run : BEYOND) {
            String name = "17: runLength(" + run + ")";
            Sample.refused(name, Sample::none, x -> x.runLength(run), NONE);
            Sample.refused(name, Sample::three, x -> x.runLength(run), NONE);
            Sample.refused(name, Sample::eight, x -> x.runLength(run), NONE);
        }
        Sample.refused("17: runLength(0) of none", Sample::none, x -> x.runLength(0), NONE);
        Check.due("17: runCount() of three", Sample.three().runCount(), 2);
        Sample.refused("17: runLength(2) of three", Sample::three, x -> x.runLength(2), NONE);
        for (int run = 1; run < 8; run++) {
            int beyond = run;
            Sample.refused("17: runLength(" + run + ") of a row", () -> Sample.row(0),
                    x -> x.runLength(beyond), NONE);
        }
    }

    // "Runs are numbered from 0 in their order."
    private static void promise17TellsTheFirstAndTheLastRun() {
        Check.due("17: runLength(0) of three", Sample.three().runLength(0), 2);
        Check.due("17: runLength(1) of three", Sample.three().runLength(1), 1);
        PlotterPlanner x = new PlotterPlanner();
        x.addStroke(0, 0, 1, 0, 0);
        x.addStroke(5, 0, 6, 0, 0);
        x.addStroke(6, 0, 7, 0, 0);
        x.addStroke(7, 0, 8, 0, 1);
        x.addStroke(8, 0, 9, 0, 1);
        x.addStroke(9, 0, 9, 1, 1);
        x.addStroke(9, 1, 9, 2, 0);
        x.addStroke(9, 2, 9, 3, 0);
        int[] lengths = {1, 2, 3, 2, NONE, NONE, NONE, NONE, NONE};
        for (int run = 0; run < 9; run++) {
            Check.due("17: runLength(" + run + ")", x.runLength(run), lengths[run]);
        }
        x.movePosition(0, 7);
        int[] moved = {2, 3, 2, 1, NONE, NONE, NONE, NONE, NONE};
        for (int run = 0; run < 9; run++) {
            Check.due("17: runLength(" + run + "), moved", x.runLength(run), moved[run]);
        }
    }

    private static void promise17IsFrom1To8() {
        PlotterPlanner x = new PlotterPlanner();
        for (int stroke = 0; stroke < 8; stroke++) {
            x.addStroke(10 * stroke, 5, 10 * stroke + 10, 5, 0);
            Check.due("17: runLength(0)", x.runLength(0), stroke + 1);
            Check.due("17: runLength(1)", x.runLength(1), NONE);
        }
        PlotterPlanner y = new PlotterPlanner();
        for (int stroke = 0; stroke < 8; stroke++) {
            y.addStroke(stroke, 0, stroke, 9, 0);
        }
        for (int run = 0; run < 8; run++) {
            Check.due("17: runLength(" + run + ") of apart ones", y.runLength(run), 1);
        }
        Check.due("17: runLength(8) of apart ones", y.runLength(8), NONE);
    }
}
