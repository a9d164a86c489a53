import java.util.Arrays;

/**
 * Promises 1 to 9 at their edges: a test for each sentence of the document that names one. The
 * sentence stands above the test, the promise in its name.
 */
public final class StrokeEdgesTest {
    private static final int WRONG = Sample.WRONG;
    private static final int FULL = Sample.FULL;
    private static final int NONE = Sample.NONE;
    private static final int LEAST = Integer.MIN_VALUE;
    private static final int GREATEST = Integer.MAX_VALUE;
    /** No coordinates: next to the range, and those that a byte or a short would cut into it. */
    private static final int[] NO_COORDINATES =
            {-1, 100, LEAST, GREATEST, LEAST + 1, 256, -256, 65536, -65536};
    private static final int[] NO_PENS = {-1, 4, LEAST, GREATEST, LEAST + 1, 256, -256, 65536};
    /** No strokes, however many there are. */
    private static final int[] NO_STROKES = {-1, 8, LEAST, GREATEST, LEAST + 1, -8, 256, 65536};

    private StrokeEdgesTest() {
    }

    public static void main(String[] args) {
        newObjects();
        adding();
        removing();
        reading();
        alike();
        covered();
        duplicates();
        runs();
        Check.finish();
    }

    // Promise 1

    private static void newObjects() {
        promise1HasNoStroke();
        promise1HasNoEdit();
        promise1HasTheInitialPenCost();
        promise1HasTheInitialSquareLimit();
        promise1HasTheInitialAcceleration();
        promise1IsApartFromOtherObjects();
    }

    // "Creates a planner without strokes": each call that reads something, with no stroke.
    private static void promise1HasNoStroke() {
        PlotterPlanner x = new PlotterPlanner();
        Check.due("1: strokeCount()", x.strokeCount(), 0);
        Check.due("1: penOf(0)", x.penOf(0), WRONG);
        Check.due("1: alikeTo(0)", x.alikeTo(0), WRONG);
        Check.due("1: coveredBy(0)", x.coveredBy(0), WRONG);
        Check.due("1: strokeAt(0)", x.strokeAt(0), NONE);
        Check.due("1: directionAt(0)", x.directionAt(0), NONE);
        Check.due("1: cost()", x.cost(), 0);
        Check.due("1: penChanges()", x.penChanges(), 0);
        Check.due("1: runCount()", x.runCount(), 0);
        Check.due("1: runLength(0)", x.runLength(0), NONE);
        Check.due("1: bestCost()", x.bestCost(), 0);
        Check.due("1: bestAt(0)", x.bestAt(0), NONE);
        Check.due("1: cornerLimit(0)", x.cornerLimit(0), WRONG);
        Check.due("1: endSquare(0)", x.endSquare(0), WRONG);
        Check.due("1: peakSquare(0)", x.peakSquare(0), WRONG);
        for (int pen = 0; pen < 4; pen++) {
            Check.due("1: leastRuns(" + pen + ")", x.leastRuns(pen), 0);
        }
    }

    private static void promise1HasNoEdit() {
        Check.due("1: undo() at once", new PlotterPlanner().undo(), NONE);
    }

    // "The pen cost C is from 0 to 500; initially it is 50."
    private static void promise1HasTheInitialPenCost() {
        PlotterPlanner x = new PlotterPlanner();
        x.addStroke(0, 0, 1, 0, 0);
        Check.due("1: cost() of the pen alone", x.cost(), 50);
        Check.due("1: bestCost() of the pen alone", x.bestCost(), 50);
        Check.due("1: setPenCost(51)", x.setPenCost(51), 50);
        Check.due("1: setPenCost(50) of a new one", new PlotterPlanner().setPenCost(50), 50);
    }

    // "The square limit V is from 1 to 9999, initially 400"
    private static void promise1HasTheInitialSquareLimit() {
        PlotterPlanner x = new PlotterPlanner();
        x.addStroke(0, 0, 99, 0, 0);
        Check.due("1: peakSquare(0), at the limit", x.peakSquare(0), 400);
        Check.due("1: setSquareLimit(401)", x.setSquareLimit(401), 400);
        Check.due("1: setSquareLimit(400) of a new one",
                new PlotterPlanner().setSquareLimit(400), 400);
    }

    // "the acceleration A is from 1 to 99, initially 10"
    private static void promise1HasTheInitialAcceleration() {
        PlotterPlanner x = new PlotterPlanner();
        x.addStroke(0, 0, 1, 0, 0);
        Check.due("1: peakSquare(0), by acceleration", x.peakSquare(0), 10);
        Check.due("1: setAcceleration(11)", x.setAcceleration(11), 10);
        Check.due("1: setAcceleration(10) of a new one",
                new PlotterPlanner().setAcceleration(10), 10);
    }

    private static void promise1IsApartFromOtherObjects() {
        PlotterPlanner x = Sample.eight();
        String before = Sample.answers(x);
        PlotterPlanner y = new PlotterPlanner();
        Check.due("1: another one's strokeCount()", y.strokeCount(), 0);
        y.addStroke(3, 3, 4, 4, 2);
        y.bestCost();
        y.setPenCost(0);
        Sample.same("1: another object", Sample.answers(x), before);
        Check.due("1: another one's penOf(0)", y.penOf(0), 2);
        Check.due("1: another one's cost()", y.cost(), 3);
    }

    // Promise 2

    private static void adding() {
        promise2TakesCoordinatesFrom0To99();
        promise2TakesTheCornersOfTheRange();
        promise2RefusesOtherCoordinates();
        promise2TakesPensFrom0To3();
        promise2RefusesOtherPens();
        promise2RefusesEqualPoints();
        promise2TakesPointsThatDifferByOne();
        promise2NumbersFrom0To7();
        promise2RefusesANinthStroke();
        promise2TakesAnEighthStrokeAgain();
        promise2RefusesAWrongNinthStrokeAsWrong();
        promise2PutsTheStrokeAtTheEndForward();
        promise2IsUndone();
    }

    private static int add(PlotterPlanner x, int[] five) {
        return x.addStroke(five[0], five[1], five[2], five[3], five[4]);
    }

    private static int[] strokeWith(int index, int value) {
        int[] five = {41, 52, 63, 74, 1};
        five[index] = value;
        return five;
    }

    // "x of the first point, 0 to 99", and the same for y and for the last point
    private static void promise2TakesCoordinatesFrom0To99() {
        for (int index = 0; index < 4; index++) {
            for (int value : new int[] {0, 1, 98, 99}) {
                PlotterPlanner x = new PlotterPlanner();
                int[] five = strokeWith(index, value);
                String name = "2: argument " + index + " is " + value;
                Check.due(name, add(x, five), 0);
                Check.due(name + ": cost()", x.cost(), 50 + Math.max(five[0], five[1]));
                x.turnPosition(0);
                Check.due(name + ": cost() turned", x.cost(), 50 + Math.max(five[2], five[3]));
            }
        }
    }

    private static void promise2TakesTheCornersOfTheRange() {
        PlotterPlanner x = new PlotterPlanner();
        Check.due("2: addStroke(0, 0, 99, 99, 0)", x.addStroke(0, 0, 99, 99, 0), 0);
        Check.due("2: addStroke(99, 99, 0, 0, 0)", x.addStroke(99, 99, 0, 0, 0), 1);
        Check.due("2: addStroke(0, 99, 99, 0, 0)", x.addStroke(0, 99, 99, 0, 0), 2);
        Check.due("2: addStroke(99, 0, 0, 99, 0)", x.addStroke(99, 0, 0, 99, 0), 3);
        Check.due("2: addStroke(-1, -1, 100, 100, 0)", x.addStroke(-1, -1, 100, 100, 0), WRONG);
        Check.due("2: strokeCount()", x.strokeCount(), 4);
    }

    // "INVALID_ARGUMENT if an argument is out of range"
    private static void promise2RefusesOtherCoordinates() {
        for (int index = 0; index < 4; index++) {
            for (int value : NO_COORDINATES) {
                int[] five = strokeWith(index, value);
                String name = "2: argument " + index + " is " + value;
                Sample.refused(name, Sample::none, x -> add(x, five), WRONG);
                Sample.refused(name, Sample::three, x -> add(x, five), WRONG);
            }
        }
    }

    // "pen: 0 to 3"
    private static void promise2TakesPensFrom0To3() {
        for (int pen = 0; pen <= 3; pen++) {
            PlotterPlanner x = new PlotterPlanner();
            Check.due("2: pen " + pen, x.addStroke(1, 2, 3, 4, pen), 0);
            Check.due("2: penOf(0)", x.penOf(0), pen);
            Check.due("2: leastRuns(" + pen + ")", x.leastRuns(pen), 1);
        }
    }

    private static void promise2RefusesOtherPens() {
        for (int pen : NO_PENS) {
            String name = "2: pen " + pen;
            Sample.refused(name, Sample::none, x -> x.addStroke(1, 2, 3, 4, pen), WRONG);
            Sample.refused(name, Sample::three, x -> x.addStroke(1, 2, 3, 4, pen), WRONG);
        }
    }

    // "INVALID_ARGUMENT if .. both points are equal"
    private static void promise2RefusesEqualPoints() {
        for (int[] point : new int[][] {{0, 0}, {99, 99}, {0, 99}, {99, 0}, {7, 8}, {5, 5}}) {
            Sample.refused("2: twice the point " + point[0] + ", " + point[1], Sample::three,
                    x -> x.addStroke(point[0], point[1], point[0], point[1], 0), WRONG);
        }
    }

    // "between two different points": one coordinate that differs is enough.
    private static void promise2TakesPointsThatDifferByOne() {
        PlotterPlanner x = new PlotterPlanner();
        Check.due("2: addStroke(0, 0, 0, 1, 0)", x.addStroke(0, 0, 0, 1, 0), 0);
        Check.due("2: addStroke(0, 0, 1, 0, 0)", x.addStroke(0, 0, 1, 0, 0), 1);
        Check.due("2: addStroke(99, 99, 99, 98, 0)", x.addStroke(99, 99, 99, 98, 0), 2);
        Check.due("2: addStroke(99, 99, 98, 99, 0)", x.addStroke(99, 99, 98, 99, 0), 3);
        Check.due("2: addStroke(7, 8, 8, 7, 0)", x.addStroke(7, 8, 8, 7, 0), 4);
        Check.due("2: addStroke(7, 7, 8, 8, 0)", x.addStroke(7, 7, 8, 8, 0), 5);
    }

    // "There are at most 8 strokes, numbered from 0."
    private static void promise2NumbersFrom0To7() {
        PlotterPlanner x = new PlotterPlanner();
        for (int stroke = 0; stroke < 8; stroke++) {
            Check.due("2: addStroke " + stroke, x.addStroke(1, 2, 3, 4, 0), stroke);
            Check.due("2: strokeCount()", x.strokeCount(), stroke + 1);
        }
    }

    // "LIMIT_REACHED if there are 8 strokes"
    private static void promise2RefusesANinthStroke() {
        Sample.refused("2: a ninth", Sample::eight, x -> x.addStroke(1, 2, 3, 4, 0), FULL);
        Sample.refused("2: a ninth at the ends", Sample::eight,
                x -> x.addStroke(0, 0, 99, 99, 3), FULL);
        Sample.refused("2: a ninth alike", () -> Sample.row(2),
                x -> x.addStroke(0, 5, 10, 5, 2), FULL);
    }

    private static void promise2TakesAnEighthStrokeAgain() {
        PlotterPlanner x = Sample.row(0);
        x.removeStroke(3);
        Check.due("2: behind removeStroke", x.addStroke(1, 2, 3, 4, 0), 7);
        Check.due("2: a ninth again", x.addStroke(1, 2, 3, 4, 0), FULL);
        x.undo();
        Check.due("2: behind undo()", x.addStroke(1, 2, 3, 4, 0), 7);
        Check.due("2: a ninth again", x.addStroke(1, 2, 3, 4, 0), FULL);
        PlotterPlanner y = Sample.eight();
        y.removeDuplicates();
        Check.due("2: behind removeDuplicates()", y.addStroke(1, 2, 3, 4, 0), 6);
        Check.due("2: an eighth", y.addStroke(1, 2, 3, 4, 0), 7);
        Check.due("2: a ninth again", y.addStroke(1, 2, 3, 4, 0), FULL);
    }

    // "If several errors apply to a call, INVALID_ARGUMENT is returned rather than LIMIT_REACHED"
    private static void promise2RefusesAWrongNinthStrokeAsWrong() {
        for (int index = 0; index < 4; index++) {
            for (int value : NO_COORDINATES) {
                int[] five = strokeWith(index, value);
                Sample.refused("2: a ninth, argument " + index + " is " + value, Sample::eight,
                        x -> add(x, five), WRONG);
            }
        }
        for (int pen : NO_PENS) {
            Sample.refused("2: a ninth, pen " + pen, Sample::eight,
                    x -> x.addStroke(1, 2, 3, 4, pen), WRONG);
        }
        Sample.refused("2: a ninth, equal points", Sample::eight,
                x -> x.addStroke(1, 2, 1, 2, 0), WRONG);
        Sample.refused("2: a ninth, all wrong", Sample::eight,
                x -> x.addStroke(-1, -1, -1, -1, -1), WRONG);
    }

    // "A new stroke comes to the end of the plan, forward."
    private static void promise2PutsTheStrokeAtTheEndForward() {
        PlotterPlanner x = new PlotterPlanner();
        for (int stroke = 0; stroke < 8; stroke++) {
            x.addStroke(9, stroke, 9, 9, stroke % 4);
            Check.due("2: strokeAt(" + stroke + ")", x.strokeAt(stroke), stroke);
            Check.due("2: directionAt(" + stroke + ")", x.directionAt(stroke), 0);
            Check.due("2: strokeAt(" + (stroke + 1) + ")", x.strokeAt(stroke + 1), NONE);
            // what stands before it shall not matter
            x.turnPosition(stroke);
            x.movePosition(stroke, 0);
        }
        Check.plan("2: each one moved to the front", x, 15, 13, 11, 9, 7, 5, 3, 1);
    }

    // "This is an edit."
    private static void promise2IsUndone() {
        Sample.undoneEdit("2: the first stroke", Sample::none, x -> x.addStroke(9, 9, 1, 1, 3), 0);
        Sample.undoneEdit("2: a fourth", Sample::three, x -> x.addStroke(9, 9, 1, 1, 3), 3);
        Sample.undoneEdit("2: an eighth",
                () -> Sample.drawn(0, 0, 1, 0, 0, 2, 0, 3, 0, 0, 4, 0, 5, 0, 0, 6, 0, 7, 0, 0,
                        8, 0, 9, 0, 0, 10, 0, 11, 0, 0, 12, 0, 13, 0, 0),
                x -> x.addStroke(99, 99, 1, 1, 3), 7);
    }

    // Promise 3

    private static void removing() {
        promise3RefusesAStrokeThatIsNone();
        promise3TakesTheFirstAndTheLastStroke();
        promise3EmptiesTheObject();
        promise3LowersTheHigherNumbers();
        promise3MovesThePositionsBehind();
        promise3IsUndone();
    }

    // "INVALID_ARGUMENT if there is no such stroke"
    private static void promise3RefusesAStrokeThatIsNone() {
        for (int stroke : NO_STROKES) {
            String name = "3: removeStroke(" + stroke + ")";
            Sample.refused(name, Sample::none, x -> x.removeStroke(stroke), WRONG);
            Sample.refused(name, Sample::three, x -> x.removeStroke(stroke), WRONG);
            Sample.refused(name, Sample::eight, x -> x.removeStroke(stroke), WRONG);
        }
        Sample.refused("3: removeStroke(0) of none", Sample::none, x -> x.removeStroke(0), WRONG);
        Sample.refused("3: removeStroke(3) of three", Sample::three, x -> x.removeStroke(3), WRONG);
    }

    // "Returns the number of strokes that remain"
    private static void promise3TakesTheFirstAndTheLastStroke() {
        Check.due("3: removeStroke(0) of eight", Sample.eight().removeStroke(0), 7);
        Check.due("3: removeStroke(7) of eight", Sample.eight().removeStroke(7), 7);
        Check.due("3: removeStroke(0) of three", Sample.three().removeStroke(0), 2);
        Check.due("3: removeStroke(2) of three", Sample.three().removeStroke(2), 2);
    }

    private static void promise3EmptiesTheObject() {
        PlotterPlanner x = Sample.eight();
        for (int remain = 7; remain >= 0; remain--) {
            Check.due("3: removeStroke(0)", x.removeStroke(0), remain);
            Check.due("3: strokeCount()", x.strokeCount(), remain);
        }
        Check.due("3: removeStroke(0) of none", x.removeStroke(0), WRONG);
        Check.plan("3: of none", x);
        Check.due("3: cost() of none", x.cost(), 0);
        Check.due("3: runCount() of none", x.runCount(), 0);
        Check.due("3: bestCost() of none", x.bestCost(), 0);
        Check.due("3: addStroke into none", x.addStroke(1, 2, 3, 4, 0), 0);
        PlotterPlanner y = Sample.row(0);
        for (int last = 7; last >= 0; last--) {
            Check.due("3: removeStroke(" + last + ")", y.removeStroke(last), last);
        }
    }

    // "the strokes with higher numbers get a number that is lower by one, also in the plan"
    private static void promise3LowersTheHigherNumbers() {
        for (int removed = 0; removed < 8; removed++) {
            PlotterPlanner x = new PlotterPlanner();
            for (int stroke = 0; stroke < 8; stroke++) {
                x.addStroke(9 * stroke, stroke, 50 + stroke, 99, stroke % 4);
            }
            x.removeStroke(removed);
            String name = "3: removeStroke(" + removed + ")";
            for (int stroke = 0; stroke < 8; stroke++) {
                int number = stroke > removed ? stroke - 1 : stroke;
                // a stroke alike, added for this question alone, tells the number
                x.addStroke(9 * stroke, stroke, 50 + stroke, 99, stroke % 4);
                Check.due(name + ": the stroke that was " + stroke, x.alikeTo(7),
                        stroke == removed ? NONE : number);
                x.undo();
                if (stroke != removed) {
                    Check.due(name + ": strokeAt(" + number + ")", x.strokeAt(number), number);
                    Check.due(name + ": penOf(" + number + ")", x.penOf(number), stroke % 4);
                }
            }
        }
    }

    // "and the positions behind it move down by one"
    private static void promise3MovesThePositionsBehind() {
        promise3Moves(7, 11, 2, 5, 6, 0, 8, 12);
        promise3Moves(6, 12, 11, 2, 5, 6, 0, 8);
        promise3Moves(2, 12, 9, 2, 4, 0, 6, 10);
        promise3Moves(0, 12, 9, 0, 3, 4, 6, 10);
    }

    private static void promise3Moves(int removed, int... codes) {
        PlotterPlanner x = Sample.row(1);
        x.movePosition(7, 0);
        x.movePosition(6, 1);
        x.turnPosition(1);
        x.turnPosition(4);
        x.movePosition(2, 5);
        Check.plan("3: before", x, 14, 11, 2, 5, 6, 0, 8, 12);
        Check.due("3: removeStroke(" + removed + ")", x.removeStroke(removed), 7);
        Check.plan("3: without " + removed, x, codes);
    }

    private static void promise3IsUndone() {
        for (int stroke = 0; stroke < 8; stroke++) {
            int removed = stroke;
            Sample.undoneEdit("3: removeStroke(" + stroke + ")", Sample::eight,
                    x -> x.removeStroke(removed), 7);
        }
    }

    // Promises 4 and 5

    private static void reading() {
        promise4CountsFrom0To8();
        promise4And5AreNoEdits();
        promise5TellsThePenOfEachStroke();
        promise5RefusesAStrokeThatIsNone();
    }

    private static void promise4CountsFrom0To8() {
        PlotterPlanner x = new PlotterPlanner();
        Check.due("4: strokeCount() of none", x.strokeCount(), 0);
        for (int count = 1; count <= 8; count++) {
            x.addStroke(1, 2, 3, 4, 0);
            Check.due("4: strokeCount()", x.strokeCount(), count);
        }
        x.addStroke(1, 2, 3, 4, 0);
        Check.due("4: strokeCount() behind a ninth", x.strokeCount(), 8);
        x.addStroke(1, 2, 1, 2, 0);
        Check.due("4: strokeCount() behind a wrong one", x.strokeCount(), 8);
        x.removeDuplicates();
        Check.due("4: strokeCount() behind removeDuplicates()", x.strokeCount(), 1);
        x.removeStroke(0);
        Check.due("4: strokeCount() of none again", x.strokeCount(), 0);
    }

    private static void promise4And5AreNoEdits() {
        Sample.isNoEdit("4: strokeCount()", Sample::three, x -> x.strokeCount());
        Sample.isNoEdit("4: strokeCount()", Sample::eight, x -> x.strokeCount());
        Sample.isNoEdit("5: penOf(0)", Sample::three, x -> x.penOf(0));
        Sample.isNoEdit("5: penOf(0)", Sample::eight, x -> x.penOf(0));
    }

    private static void promise5TellsThePenOfEachStroke() {
        PlotterPlanner x = new PlotterPlanner();
        for (int stroke = 0; stroke < 8; stroke++) {
            x.addStroke(1, 2, 3, 4, 3 - stroke % 4);
        }
        // by the number of the stroke, wherever it stands in the plan
        x.movePosition(0, 7);
        for (int stroke = 0; stroke < 8; stroke++) {
            Check.due("5: penOf(" + stroke + ")", x.penOf(stroke), 3 - stroke % 4);
        }
    }

    private static void promise5RefusesAStrokeThatIsNone() {
        for (int stroke : NO_STROKES) {
            String name = "5: penOf(" + stroke + ")";
            Sample.refused(name, Sample::none, x -> x.penOf(stroke), WRONG);
            Sample.refused(name, Sample::three, x -> x.penOf(stroke), WRONG);
            Sample.refused(name, Sample::eight, x -> x.penOf(stroke), WRONG);
        }
        Sample.refused("5: penOf(0) of none", Sample::none, x -> x.penOf(0), WRONG);
        Check.due("5: penOf(2) of three", Sample.three().penOf(2), 0);
        Sample.refused("5: penOf(3) of three", Sample::three, x -> x.penOf(3), WRONG);
        Check.due("5: penOf(7) of eight", Sample.eight().penOf(7), 3);
        PlotterPlanner x = Sample.eight();
        x.removeStroke(0);
        Check.due("5: penOf(7) of seven", x.penOf(7), WRONG);
    }

    // Promise 6

    private static void alike() {
        promise6TakesEitherOrder();
        promise6WantsTheSamePen();
        promise6WantsBothEndPoints();
        promise6TellsTheLowestOther();
        promise6RefusesAStrokeThatIsNone();
        promise6FindsNone();
    }

    private static int alikeOfTwo(int[] first, int[] second) {
        PlotterPlanner x = new PlotterPlanner();
        add(x, first);
        add(x, second);
        Check.due("6: alikeTo both ways", x.alikeTo(1), x.alikeTo(0) == 1 ? 0 : x.alikeTo(0));
        return x.alikeTo(0);
    }

    // "the same two end points, in either order"
    private static void promise6TakesEitherOrder() {
        int[] stroke = {1, 2, 3, 4, 0};
        Check.due("6: the same order", alikeOfTwo(stroke, new int[] {1, 2, 3, 4, 0}), 1);
        Check.due("6: the other order", alikeOfTwo(stroke, new int[] {3, 4, 1, 2, 0}), 1);
        int[] diagonal = {0, 0, 99, 99, 3};
        Check.due("6: the same order", alikeOfTwo(diagonal, new int[] {0, 0, 99, 99, 3}), 1);
        Check.due("6: the other order", alikeOfTwo(diagonal, new int[] {99, 99, 0, 0, 3}), 1);
    }

    // "if they have the same pen"
    private static void promise6WantsTheSamePen() {
        for (int pen = 0; pen < 4; pen++) {
            for (int other = 0; other < 4; other++) {
                int want = pen == other ? 1 : NONE;
                Check.due("6: pens " + pen + ", " + other, alikeOfTwo(
                        new int[] {1, 2, 3, 4, pen}, new int[] {1, 2, 3, 4, other}), want);
                Check.due("6: turned, pens " + pen + ", " + other, alikeOfTwo(
                        new int[] {1, 2, 3, 4, pen}, new int[] {3, 4, 1, 2, other}), want);
            }
        }
    }

    private static void promise6WantsBothEndPoints() {
        int[] stroke = {11, 22, 33, 44, 0};
        for (int index = 0; index < 4; index++) {
            for (int by = -1; by <= 1; by += 2) {
                int[] other = stroke.clone();
                other[index] += by;
                Check.due("6: argument " + index + " differs", alikeOfTwo(stroke, other), NONE);
                int[] turned = {other[2], other[3], other[0], other[1], 0};
                Check.due("6: turned, argument " + index + " differs",
                        alikeOfTwo(stroke, turned), NONE);
            }
        }
        Check.due("6: x and y exchanged", alikeOfTwo(stroke, new int[] {22, 11, 44, 33, 0}), NONE);
        Check.due("6: the x alone exchanged",
                alikeOfTwo(stroke, new int[] {33, 22, 11, 44, 0}), NONE);
        Check.due("6: the first one's end points at one of the other's",
                alikeOfTwo(stroke, new int[] {11, 22, 11, 23, 0}), NONE);
        // points that are one where y may run over into x
        Check.due("6: (0, 99) and (1, 0)", alikeOfTwo(
                new int[] {0, 99, 50, 50, 0}, new int[] {1, 0, 50, 50, 0}), NONE);
        Check.due("6: (99, 0) and (0, 1)", alikeOfTwo(
                new int[] {99, 0, 50, 50, 0}, new int[] {0, 1, 50, 50, 0}), NONE);
    }

    // "Returns the lowest number of another stroke that is alike"
    private static void promise6TellsTheLowestOther() {
        PlotterPlanner x = new PlotterPlanner();
        for (int stroke = 0; stroke < 8; stroke++) {
            x.addStroke(1, 2, 3, 4, 0);
        }
        Check.due("6: alikeTo(0) of eight", x.alikeTo(0), 1);
        for (int stroke = 1; stroke < 8; stroke++) {
            Check.due("6: alikeTo(" + stroke + ") of eight", x.alikeTo(stroke), 0);
        }
        // the plan does not matter
        x.movePosition(0, 7);
        x.turnPosition(7);
        Check.due("6: alikeTo(1), moved", x.alikeTo(1), 0);
        PlotterPlanner y = Sample.row(0);
        y.removeStroke(7);
        y.addStroke(70, 5, 60, 5, 0);
        Check.due("6: alikeTo(6), the last one", y.alikeTo(6), 7);
        Check.due("6: alikeTo(7), the last but one", y.alikeTo(7), 6);
    }

    // "INVALID_ARGUMENT if there is no such stroke", "INVALID_ARGUMENT .. rather than .. NOT_FOUND"
    private static void promise6RefusesAStrokeThatIsNone() {
        for (int stroke : NO_STROKES) {
            String name = "6: alikeTo(" + stroke + ")";
            Sample.refused(name, Sample::none, x -> x.alikeTo(stroke), WRONG);
            Sample.refused(name, Sample::three, x -> x.alikeTo(stroke), WRONG);
            Sample.refused(name, Sample::eight, x -> x.alikeTo(stroke), WRONG);
        }
        Sample.refused("6: alikeTo(0) of none", Sample::none, x -> x.alikeTo(0), WRONG);
        Sample.refused("6: alikeTo(3) of three", Sample::three, x -> x.alikeTo(3), WRONG);
        PlotterPlanner x = new PlotterPlanner();
        for (int stroke = 0; stroke < 8; stroke++) {
            x.addStroke(1, 2, 3, 4, 0);
        }
        x.removeStroke(7);
        Check.due("6: alikeTo(7) of seven", x.alikeTo(7), WRONG);
    }

    // "NOT_FOUND if none is alike"
    private static void promise6FindsNone() {
        for (int stroke = 0; stroke < 3; stroke++) {
            int lone = stroke;
            Sample.refused("6: alikeTo(" + stroke + ") of three", Sample::three,
                    x -> x.alikeTo(lone), NONE);
        }
        for (int stroke = 0; stroke < 8; stroke++) {
            int lone = stroke;
            Sample.refused("6: alikeTo(" + stroke + ") of a row", () -> Sample.row(0),
                    x -> x.alikeTo(lone), NONE);
        }
        PlotterPlanner x = new PlotterPlanner();
        x.addStroke(1, 2, 3, 4, 0);
        Check.due("6: alikeTo(0) of one, not itself", x.alikeTo(0), NONE);
        Sample.isNoEdit("6: alikeTo(1)", Sample::eight, y -> y.alikeTo(1));
    }

    // Promise 7

    private static void covered() {
        promise7CountsTheEndPoints();
        promise7ReachesNotBeyondTheEnds();
        promise7WantsEachPointOnTheStroke();
        promise7WantsTheSamePen();
        promise7LeavesOutAlikeStrokes();
        promise7TellsTheLowest();
        promise7RefusesAStrokeThatIsNone();
        promise7FindsNone();
    }

    /** Both orders of both strokes and of their points; tells whether the second is covered. */
    private static void coveredOfTwo(String name, int[] first, int[] second, boolean isCovered) {
        for (int orders = 0; orders < 8; orders++) {
            PlotterPlanner x = new PlotterPlanner();
            int[] cover = (orders & 1) == 0 ? first : turned(first);
            int[] inner = (orders & 2) == 0 ? second : turned(second);
            boolean coverFirst = (orders & 4) == 0;
            add(x, coverFirst ? cover : inner);
            add(x, coverFirst ? inner : cover);
            int number = coverFirst ? 1 : 0;
            Check.due("7: " + name + ", order " + orders, x.coveredBy(number),
                    isCovered ? 1 - number : NONE);
        }
    }

    private static int[] turned(int[] five) {
        return new int[] {five[2], five[3], five[0], five[1], five[4]};
    }

    // "each point of the first one lies on the second one": the ends of the second one, too
    private static void promise7CountsTheEndPoints() {
        int[] level = {10, 5, 20, 5, 0};
        coveredOfTwo("level, from the end", level, new int[] {10, 5, 19, 5, 0}, true);
        coveredOfTwo("level, to the end", level, new int[] {11, 5, 20, 5, 0}, true);
        coveredOfTwo("level, inside", level, new int[] {11, 5, 19, 5, 0}, true);
        int[] upright = {5, 10, 5, 20, 0};
        coveredOfTwo("upright, from the end", upright, new int[] {5, 10, 5, 11, 0}, true);
        coveredOfTwo("upright, to the end", upright, new int[] {5, 19, 5, 20, 0}, true);
        int[] rising = {0, 0, 99, 99, 0};
        coveredOfTwo("rising, from the end", rising, new int[] {0, 0, 1, 1, 0}, true);
        coveredOfTwo("rising, to the end", rising, new int[] {98, 98, 99, 99, 0}, true);
        int[] falling = {0, 99, 66, 0, 0};
        coveredOfTwo("falling, from the end", falling, new int[] {0, 99, 2, 96, 0}, true);
        coveredOfTwo("falling, to the end", falling, new int[] {66, 0, 64, 3, 0}, true);
        coveredOfTwo("falling, inside", falling, new int[] {22, 66, 44, 33, 0}, true);
    }

    private static void promise7ReachesNotBeyondTheEnds() {
        int[] level = {10, 5, 20, 5, 0};
        coveredOfTwo("level, one ahead", level, new int[] {9, 5, 15, 5, 0}, false);
        coveredOfTwo("level, one beyond", level, new int[] {15, 5, 21, 5, 0}, false);
        coveredOfTwo("level, behind it", level, new int[] {20, 5, 25, 5, 0}, false);
        coveredOfTwo("level, apart", level, new int[] {21, 5, 25, 5, 0}, false);
        coveredOfTwo("level, longer on both sides", level, new int[] {9, 5, 21, 5, 0}, false);
        int[] upright = {5, 10, 5, 20, 0};
        coveredOfTwo("upright, one ahead", upright, new int[] {5, 9, 5, 15, 0}, false);
        coveredOfTwo("upright, one beyond", upright, new int[] {5, 15, 5, 21, 0}, false);
        int[] rising = {1, 1, 98, 98, 0};
        coveredOfTwo("rising, one ahead", rising, new int[] {0, 0, 50, 50, 0}, false);
        coveredOfTwo("rising, one beyond", rising, new int[] {50, 50, 99, 99, 0}, false);
        coveredOfTwo("rising, one behind the end", rising, new int[] {98, 98, 99, 99, 0}, false);
    }

    private static void promise7WantsEachPointOnTheStroke() {
        int[] level = {10, 5, 20, 5, 0};
        coveredOfTwo("level, one point beside", level, new int[] {11, 5, 19, 6, 0}, false);
        coveredOfTwo("level, both beside", level, new int[] {11, 6, 19, 6, 0}, false);
        coveredOfTwo("level, crossing", level, new int[] {15, 0, 15, 9, 0}, false);
        coveredOfTwo("level, from an end point", level, new int[] {10, 5, 10, 9, 0}, false);
        int[] steep = {0, 0, 98, 99, 0};
        // beside the line by one part in 9702 of the whole
        coveredOfTwo("close beside it", steep, new int[] {0, 0, 97, 98, 0}, false);
        coveredOfTwo("close beside it", steep, new int[] {1, 1, 98, 99, 0}, false);
        int[] box = {20, 20, 30, 40, 0};
        coveredOfTwo("the other diagonal", box, new int[] {20, 40, 30, 20, 0}, false);
        coveredOfTwo("inside the box", box, new int[] {24, 30, 26, 30, 0}, false);
        coveredOfTwo("the middle and beside", box, new int[] {25, 30, 26, 31, 0}, false);
    }

    // "if both have the same pen"
    private static void promise7WantsTheSamePen() {
        for (int pen = 0; pen < 4; pen++) {
            for (int other = 0; other < 4; other++) {
                coveredOfTwo("pens " + pen + ", " + other, new int[] {0, 0, 9, 9, pen},
                        new int[] {3, 3, 5, 5, other}, pen == other);
            }
        }
    }

    // "by another stroke that is not alike"
    private static void promise7LeavesOutAlikeStrokes() {
        coveredOfTwo("the same", new int[] {3, 3, 5, 5, 0}, new int[] {3, 3, 5, 5, 0}, false);
        PlotterPlanner x = new PlotterPlanner();
        x.addStroke(3, 3, 5, 5, 0);
        Check.due("7: coveredBy(0) of one, not itself", x.coveredBy(0), NONE);
        x.addStroke(5, 5, 3, 3, 0);
        x.addStroke(3, 3, 6, 6, 0);
        Check.due("7: coveredBy(0), past the one alike", x.coveredBy(0), 2);
        Check.due("7: coveredBy(1), past the one alike", x.coveredBy(1), 2);
        Check.due("7: coveredBy(2)", x.coveredBy(2), NONE);
    }

    // "Returns the lowest number of a stroke by which it is covered"
    private static void promise7TellsTheLowest() {
        PlotterPlanner x = new PlotterPlanner();
        for (int stroke = 0; stroke < 8; stroke++) {
            x.addStroke(40 - stroke, 7, 50 + stroke, 7, 2);
        }
        for (int stroke = 0; stroke < 7; stroke++) {
            Check.due("7: coveredBy(" + stroke + ")", x.coveredBy(stroke), stroke + 1);
        }
        Check.due("7: coveredBy(7)", x.coveredBy(7), NONE);
        PlotterPlanner z = new PlotterPlanner();
        for (int stroke = 7; stroke >= 0; stroke--) {
            z.addStroke(40 - stroke, 7, 50 + stroke, 7, 2);
        }
        Check.due("7: coveredBy(0), the longest first", z.coveredBy(0), NONE);
        for (int stroke = 1; stroke < 8; stroke++) {
            Check.due("7: coveredBy(" + stroke + "), the longest first", z.coveredBy(stroke), 0);
        }
    }

    // "INVALID_ARGUMENT if there is no such stroke", "INVALID_ARGUMENT .. rather than .. NOT_FOUND"
    private static void promise7RefusesAStrokeThatIsNone() {
        for (int stroke : NO_STROKES) {
            String name = "7: coveredBy(" + stroke + ")";
            Sample.refused(name, Sample::none, x -> x.coveredBy(stroke), WRONG);
            Sample.refused(name, Sample::three, x -> x.coveredBy(stroke), WRONG);
            Sample.refused(name, Sample::eight, x -> x.coveredBy(stroke), WRONG);
        }
        Sample.refused("7: coveredBy(0) of none", Sample::none, x -> x.coveredBy(0), WRONG);
        Sample.refused("7: coveredBy(3) of three", Sample::three, x -> x.coveredBy(3), WRONG);
        PlotterPlanner x = new PlotterPlanner();
        x.addStroke(0, 0, 9, 9, 0);
        x.addStroke(1, 1, 2, 2, 0);
        x.removeStroke(1);
        Check.due("7: coveredBy(1) of one", x.coveredBy(1), WRONG);
    }

    // "NOT_FOUND if it is not covered"
    private static void promise7FindsNone() {
        Sample.refused("7: coveredBy(0) of three", Sample::three, x -> x.coveredBy(0), NONE);
        Sample.refused("7: coveredBy(1) of three", Sample::three, x -> x.coveredBy(1), NONE);
        Check.due("7: coveredBy(2) of three", Sample.three().coveredBy(2), 0);
        Sample.refused("7: coveredBy(7) of eight", Sample::eight, x -> x.coveredBy(7), NONE);
        Sample.isNoEdit("7: coveredBy(2)", Sample::three, x -> x.coveredBy(2));
    }

    // Promise 8

    private static void duplicates() {
        promise8IsAnEditThatChangesNothing();
        promise8LeavesOneOfEight();
        promise8KeepsTheLowestOfEach();
        promise8KeepsOtherPensAndCoveredStrokes();
        promise8GoesInTheOrderOfTheNumbers();
        promise8MovesThePlan();
        promise8IsUndone();
    }

    // "An edit that changes nothing is an edit, too."
    private static void promise8IsAnEditThatChangesNothing() {
        Sample.idleEdit("8: of none", Sample::none, x -> x.removeDuplicates(), 0);
        Sample.idleEdit("8: of three", Sample::three, x -> x.removeDuplicates(), 0);
        Sample.idleEdit("8: of a row", () -> Sample.row(0), x -> x.removeDuplicates(), 0);
    }

    // "Removes each stroke that is alike to a stroke with a lower number"
    private static void promise8LeavesOneOfEight() {
        PlotterPlanner x = new PlotterPlanner();
        x.addStroke(1, 2, 3, 4, 3);
        Check.due("8: of one", x.removeDuplicates(), 0);
        for (int stroke = 1; stroke < 8; stroke++) {
            if (stroke % 2 == 0) {
                x.addStroke(1, 2, 3, 4, 3);
            } else {
                x.addStroke(3, 4, 1, 2, 3);
            }
        }
        x.movePosition(0, 7);
        x.turnPosition(7);
        Check.due("8: of eight alike", x.removeDuplicates(), 7);
        Check.plan("8: of eight alike", x, 1);
        Check.due("8: penOf(0)", x.penOf(0), 3);
        // it is backward, and begins at (3, 4)
        Check.due("8: cost()", x.cost(), 4 + 50);
        Check.due("8: once more", x.removeDuplicates(), 0);
    }

    private static void promise8KeepsTheLowestOfEach() {
        PlotterPlanner x = new PlotterPlanner();
        for (int stroke = 0; stroke < 8; stroke++) {
            int kind = new int[] {0, 1, 1, 2, 0, 3, 2, 1}[stroke];
            x.addStroke(kind, 9, 9, 20, kind);
        }
        Check.due("8: removeDuplicates()", x.removeDuplicates(), 4);
        Check.plan("8: removeDuplicates()", x, 0, 2, 4, 6);
        for (int stroke = 0; stroke < 4; stroke++) {
            Check.due("8: penOf(" + stroke + ")", x.penOf(stroke), stroke);
            Check.due("8: alikeTo(" + stroke + ")", x.alikeTo(stroke), NONE);
        }
    }

    private static void promise8KeepsOtherPensAndCoveredStrokes() {
        PlotterPlanner x = new PlotterPlanner();
        for (int pen = 0; pen < 4; pen++) {
            x.addStroke(1, 2, 3, 4, pen);
        }
        x.addStroke(0, 0, 9, 9, 0);
        x.addStroke(1, 1, 9, 9, 0);
        x.addStroke(0, 0, 8, 8, 0);
        x.addStroke(9, 0, 0, 9, 0);
        Check.due("8: removeDuplicates()", x.removeDuplicates(), 0);
        Check.plan("8: removeDuplicates()", x, 0, 2, 4, 6, 8, 10, 12, 14);
    }

    // "in the order of their numbers"
    private static void promise8GoesInTheOrderOfTheNumbers() {
        PlotterPlanner x = new PlotterPlanner();
        // each of the second four is alike to one of the first four, turned and in another order
        for (int stroke = 0; stroke < 4; stroke++) {
            x.addStroke(stroke, 50, 99, stroke, stroke);
        }
        for (int stroke = 3; stroke >= 0; stroke--) {
            x.addStroke(99, stroke, stroke, 50, stroke);
        }
        Check.due("8: removeDuplicates()", x.removeDuplicates(), 4);
        Check.plan("8: removeDuplicates()", x, 0, 2, 4, 6);
        for (int stroke = 0; stroke < 4; stroke++) {
            Check.due("8: penOf(" + stroke + ")", x.penOf(stroke), stroke);
            x.addStroke(stroke, 50, 99, stroke, stroke);
            Check.due("8: which it is", x.alikeTo(4), stroke);
            x.undo();
        }
    }

    // "and the positions behind it move down by one"
    private static void promise8MovesThePlan() {
        PlotterPlanner x = new PlotterPlanner();
        int[] kinds = {0, 0, 1, 2, 1, 3, 2, 4};
        for (int kind : kinds) {
            x.addStroke(kind, 9, 9, 20, 0);
        }
        x.movePosition(7, 0);
        x.movePosition(2, 7);
        x.movePosition(5, 1);
        x.turnPosition(1);
        x.turnPosition(3);
        Check.plan("8: before", x, 14, 11, 0, 5, 6, 8, 12, 2);
        Check.due("8: removeDuplicates()", x.removeDuplicates(), 3);
        Check.plan("8: removeDuplicates()", x, 8, 7, 0, 3, 4);
    }

    private static void promise8IsUndone() {
        Sample.undoneEdit("8: removeDuplicates()", Sample::eight, x -> x.removeDuplicates(), 2);
    }

    // Promise 9

    private static void runs() {
        promise9IsNoneWithoutStrokes();
        promise9TakesPensFrom0To3();
        promise9RefusesOtherPens();
        promise9IsOneWhereNoVertexIsOdd();
        promise9IsHalfOfTheOddVertices();
        promise9AddsUpTheComponents();
        promise9JoinsAtEitherEndInEachOrder();
        promise9KnowsEndPointsAlone();
        promise9IsOfTheStrokesAsTheyAre();
    }

    private static PlotterPlanner drawn(int pen, int[]... strokes) {
        PlotterPlanner planner = new PlotterPlanner();
        for (int[] stroke : strokes) {
            planner.addStroke(stroke[0], stroke[1], stroke[2], stroke[3], pen);
        }
        Check.due("9: strokeCount()", planner.strokeCount(), strokes.length);
        return planner;
    }

    private static void leastRuns(String name, int want, int[]... strokes) {
        for (int pen = 0; pen < 4; pen++) {
            Check.due("9: " + name + ", pen " + pen, drawn(pen, strokes).leastRuns(pen), want);
        }
    }

    // "0 if the pen has no strokes"
    private static void promise9IsNoneWithoutStrokes() {
        for (int pen = 0; pen < 4; pen++) {
            Check.due("9: of none", new PlotterPlanner().leastRuns(pen), 0);
            for (int other = 0; other < 4; other++) {
                int want = other == pen ? 1 : 0;
                Check.due("9: a row of pen " + pen + ", leastRuns(" + other + ")",
                        Sample.row(pen).leastRuns(other), want);
            }
        }
    }

    // "pen: 0 to 3"
    private static void promise9TakesPensFrom0To3() {
        Check.due("9: leastRuns(0)", Sample.eight().leastRuns(0), 2);
        Check.due("9: leastRuns(1)", Sample.eight().leastRuns(1), 2);
        Check.due("9: leastRuns(2)", Sample.eight().leastRuns(2), 0);
        Check.due("9: leastRuns(3)", Sample.eight().leastRuns(3), 1);
        Sample.isNoEdit("9: leastRuns(0)", Sample::eight, x -> x.leastRuns(0));
    }

    // "INVALID_ARGUMENT if pen is out of range"
    private static void promise9RefusesOtherPens() {
        for (int pen : NO_PENS) {
            String name = "9: leastRuns(" + pen + ")";
            Sample.refused(name, Sample::none, x -> x.leastRuns(pen), WRONG);
            Sample.refused(name, Sample::three, x -> x.leastRuns(pen), WRONG);
            Sample.refused(name, Sample::eight, x -> x.leastRuns(pen), WRONG);
        }
    }

    // "1 if u is 0"
    private static void promise9IsOneWhereNoVertexIsOdd() {
        leastRuns("there and back", 1, new int[][] {{1, 1, 9, 9}, {9, 9, 1, 1}});
        leastRuns("twice the same", 1, new int[][] {{1, 1, 9, 9}, {1, 1, 9, 9}});
        leastRuns("a triangle", 1, new int[][] {{0, 0, 5, 0}, {5, 0, 5, 5}, {0, 0, 5, 5}});
        int[][] same = new int[8][];
        for (int stroke = 0; stroke < 8; stroke++) {
            same[stroke] = new int[] {0, 0, 99, 99};
        }
        leastRuns("eight times the same", 1, same);
        int[][] ring = new int[8][];
        int[] x = {20, 30, 40, 50, 40, 30, 20, 10};
        int[] y = {10, 5, 10, 20, 30, 40, 35, 20};
        for (int stroke = 0; stroke < 8; stroke++) {
            int next = (stroke + 1) % 8;
            ring[stroke] = new int[] {x[stroke], y[stroke], x[next], y[next]};
        }
        leastRuns("a ring of eight", 1, ring);
        leastRuns("two rings at one vertex", 1, new int[][] {{5, 5, 9, 5}, {9, 5, 9, 9},
            {9, 9, 5, 5}, {5, 5, 1, 5}, {1, 5, 1, 1}, {1, 1, 5, 5}});
    }

    // "and u / 2 otherwise"
    private static void promise9IsHalfOfTheOddVertices() {
        leastRuns("one stroke, u is 2", 1, new int[][] {{0, 0, 99, 99}});
        leastRuns("three the same, u is 2", 1,
                new int[][] {{0, 0, 9, 9}, {9, 9, 0, 0}, {0, 0, 9, 9}});
        leastRuns("a ring with a tail, u is 2", 1,
                new int[][] {{0, 0, 5, 0}, {5, 0, 5, 5}, {5, 5, 0, 0}, {0, 0, 0, 9}});
        int[][] star = {{50, 50, 60, 50}, {50, 50, 60, 60}, {50, 60, 50, 50}, {40, 60, 50, 50},
            {50, 50, 40, 50}, {40, 40, 50, 50}, {50, 50, 50, 40}, {60, 40, 50, 50}};
        int[] want = {1, 1, 2, 2, 3, 3, 4, 4};
        for (int arms = 1; arms <= 8; arms++) {
            leastRuns("a star of " + arms, want[arms - 1], Arrays.copyOf(star, arms));
        }
        for (int corner : new int[] {0, 99}) {
            leastRuns("a star at the corner " + corner, 2, new int[][] {{corner, corner, 50, 50},
                {corner, corner, 50, 60}, {60, 50, corner, corner}});
            leastRuns("a star with an arm to the corner " + corner, 2, new int[][] {
                {corner, corner, 50, 50}, {50, 50, 50, 60}, {60, 50, 50, 50}});
        }
    }

    // "The least number of runs of the pen is the sum, over all components"
    private static void promise9AddsUpTheComponents() {
        int[][] apart = new int[8][];
        for (int stroke = 0; stroke < 8; stroke++) {
            apart[stroke] = new int[] {10 * stroke, 0, 10 * stroke, 9};
        }
        leastRuns("eight apart", 8, apart);
        int[][] pairs = new int[8][];
        for (int stroke = 0; stroke < 8; stroke++) {
            pairs[stroke] = apart[stroke / 2];
        }
        leastRuns("four pairs, u is 0 for each", 4, pairs);
        leastRuns("u is 0 and u is 4", 3, new int[][] {{0, 0, 1, 0}, {1, 0, 0, 0},
            {50, 50, 60, 50}, {50, 50, 50, 60}, {50, 50, 60, 60}});
        PlotterPlanner x = drawn(0, new int[][] {{0, 0, 5, 5}, {5, 5, 9, 9}});
        x.addStroke(5, 5, 5, 9, 1);
        Check.due("9: leastRuns(0) with another pen at its vertex", x.leastRuns(0), 1);
        Check.due("9: leastRuns(1) with another pen at its vertex", x.leastRuns(1), 1);
    }

    // "For each connected component of this graph": whichever stroke comes first, turned or not
    private static void promise9JoinsAtEitherEndInEachOrder() {
        int[][] path = {{0, 0, 5, 0}, {5, 0, 5, 5}, {5, 5, 9, 9}};
        int[][] orders = {{0, 1, 2}, {0, 2, 1}, {1, 0, 2}, {1, 2, 0}, {2, 0, 1}, {2, 1, 0}};
        for (int[] order : orders) {
            for (int turns = 0; turns < 8; turns++) {
                int[][] strokes = new int[3][];
                for (int stroke = 0; stroke < 3; stroke++) {
                    int[] part = path[order[stroke]];
                    boolean turned = (turns >> stroke & 1) == 1;
                    strokes[stroke] = turned
                            ? new int[] {part[2], part[3], part[0], part[1]} : part;
                }
                String name = "a path " + Arrays.toString(order) + ", turned " + turns;
                leastRuns(name, 1, strokes);
                leastRuns(name + ", its first two", Math.abs(order[0] - order[1]),
                        Arrays.copyOf(strokes, 2));
            }
        }
        leastRuns("a row of eight, the even ones first", 1, new int[][] {{0, 5, 10, 5},
            {20, 5, 30, 5}, {40, 5, 50, 5}, {60, 5, 70, 5}, {10, 5, 20, 5}, {30, 5, 40, 5},
            {50, 5, 60, 5}, {70, 5, 80, 5}});
    }

    // "whose vertices are the end points of the strokes"
    private static void promise9KnowsEndPointsAlone() {
        leastRuns("a crossing", 2, new int[][] {{0, 5, 9, 5}, {5, 0, 5, 9}});
        leastRuns("an end on another's middle", 2, new int[][] {{0, 5, 9, 5}, {5, 5, 5, 9}});
        leastRuns("one on the other", 2, new int[][] {{0, 5, 9, 5}, {3, 5, 4, 5}});
        leastRuns("(0, 99) and (1, 0)", 2, new int[][] {{0, 99, 50, 50}, {1, 0, 60, 60}});
        leastRuns("(99, 0) and (0, 1)", 2, new int[][] {{99, 0, 50, 50}, {0, 1, 60, 60}});
    }
    // "whose edges are these strokes": not those that an earlier question was about
    private static void promise9IsOfTheStrokesAsTheyAre() {
        PlotterPlanner x = drawn(0, new int[][] {{0, 0, 5, 0}, {5, 5, 9, 9}, {5, 0, 5, 5}});
        Check.due("9: a path, joined by its last stroke", x.leastRuns(0), 1);
        x.removeStroke(2);
        Check.due("9: behind removeStroke(2)", x.leastRuns(0), 2);
        x.addStroke(5, 0, 5, 5, 1);
        Check.due("9: joined by another pen", x.leastRuns(0), 2);
        Check.due("9: the other pen", x.leastRuns(1), 1);
        x.addStroke(5, 5, 5, 0, 0);
        Check.due("9: joined again", x.leastRuns(0), 1);
        Check.due("9: the other pen again", x.leastRuns(1), 1);
        x.removeStroke(0);
        Check.due("9: behind removeStroke(0)", x.leastRuns(0), 1);
        Check.due("9: undo()", x.undo(), 3);
        Check.due("9: undo()", x.undo(), 2);
        Check.due("9: behind undo()", x.leastRuns(0), 2);
        x.addStroke(0, 0, 5, 0, 0);
        x.addStroke(5, 0, 0, 0, 0);
        Check.due("9: three alike", x.leastRuns(0), 2);
        x.removeDuplicates();
        Check.due("9: behind removeDuplicates()", x.leastRuns(0), 2);
        // the plan does not matter
        x.turnPosition(0);
        x.movePosition(0, 2);
        Check.due("9: turned and moved", x.leastRuns(0), 2);
        Check.due("9: turned and moved, the other pen", x.leastRuns(1), 1);
    }
}
