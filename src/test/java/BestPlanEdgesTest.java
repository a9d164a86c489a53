/**
 * Promises 18 to 22 at their edges: a test for each sentence of the document that names one. The
 * sentence stands above the test, the promise in its name.
 */
public final class BestPlanEdgesTest {
    private static final int WRONG = Sample.WRONG;
    private static final int NONE = Sample.NONE;
    /** No pen costs: next to the range, and those that a byte or a short would cut into it. */
    private static final int[] NO_PEN_COSTS = {-1, 501, Integer.MIN_VALUE, Integer.MAX_VALUE,
        Integer.MIN_VALUE + 1, 502, -2, -500, 65536, 65586, -65536, 1 << 16 | 500};

    private BestPlanEdgesTest() {
    }

    public static void main(String[] args) {
        penCosts();
        bestCosts();
        bestCodes();
        adoptingBest();
        adoptingNearest();
        Check.finish();
    }

    private static void best(String name, PlotterPlanner x, int cost, int... codes) {
        Check.due("19: " + name + ": bestCost()", x.bestCost(), cost);
        for (int position = 0; position < codes.length; position++) {
            Check.due("20: " + name + ": bestAt(" + position + ")", x.bestAt(position),
                    codes[position]);
        }
        Check.due("20: " + name + ": bestAt(end)", x.bestAt(codes.length), NONE);
    }

    private static void nearest(String name, PlotterPlanner x, int cost, int... codes) {
        Check.due("22: " + name + ": adoptNearest()", x.adoptNearest(), cost);
        Check.due("22: " + name + ": cost()", x.cost(), cost);
        Check.plan("22: " + name, x, codes);
    }

    // Promise 18

    private static void penCosts() {
        promise18TakesFrom0To500();
        promise18RefusesOtherCosts();
        promise18KeepsTheCostWhereItRefuses();
        promise18ReturnsThePreviousCost();
        promise18IsNoEdit();
        promise18ActsOnTheBestPlanAtOnce();
    }

    // "cost: 0 to 500"
    private static void promise18TakesFrom0To500() {
        for (int cost : new int[] {0, 1, 49, 50, 51, 127, 128, 255, 256, 499, 500}) {
            PlotterPlanner x = Sample.drawn(3, 0, 4, 0, 0, 4, 0, 5, 0, 3);
            Check.due("18: setPenCost(" + cost + ")", x.setPenCost(cost), 50);
            Check.due("18: cost() for " + cost, x.cost(), 3 + 2 * cost);
            Check.due("18: bestCost() for " + cost, x.bestCost(), 3 + 2 * cost);
            Check.due("18: adoptNearest() for " + cost, x.adoptNearest(), 3 + 2 * cost);
            Check.due("18: behind " + cost, x.setPenCost(7), cost);
        }
    }

    // "INVALID_ARGUMENT if cost is out of range"
    private static void promise18RefusesOtherCosts() {
        for (int cost : NO_PEN_COSTS) {
            String name = "18: setPenCost(" + cost + ")";
            Sample.refused(name, Sample::none, x -> x.setPenCost(cost), WRONG);
            Sample.refused(name, Sample::three, x -> x.setPenCost(cost), WRONG);
            Sample.refused(name, Sample::eight, x -> x.setPenCost(cost), WRONG);
        }
    }

    // "A call that returns an error changes nothing"
    private static void promise18KeepsTheCostWhereItRefuses() {
        for (int cost : NO_PEN_COSTS) {
            PlotterPlanner x = new PlotterPlanner();
            x.setPenCost(cost);
            Check.due("18: behind " + cost + ", of none", x.setPenCost(500), 50);
            x.setPenCost(cost);
            Check.due("18: behind " + cost + ", with 500", x.setPenCost(0), 500);
            x.setPenCost(cost);
            Check.due("18: behind " + cost + ", with 0", x.setPenCost(1), 0);
        }
    }

    // "Returns the previous pen cost"
    private static void promise18ReturnsThePreviousCost() {
        PlotterPlanner x = new PlotterPlanner();
        int previous = 50;
        for (int cost : new int[] {0, 0, 500, 500, 1, 499, 50, 50, 0}) {
            Check.due("18: setPenCost(" + cost + ")", x.setPenCost(cost), previous);
            previous = cost;
        }
    }

    // the edits of "Edits and errors" do not have it; undo() restores "the strokes and the plan"
    private static void promise18IsNoEdit() {
        Sample.isNoEdit("18: setPenCost(0)", Sample::none, x -> x.setPenCost(0));
        Sample.isNoEdit("18: setPenCost(500)", Sample::three, x -> x.setPenCost(500));
        Sample.isNoEdit("18: setPenCost(500)", Sample::eight, x -> x.setPenCost(500));
        Sample.answersAlone("18: setPenCost(7), as it is", Sample::three, x -> x.setPenCost(7), 7);
        Sample.answersAlone("18: setPenCost(9), as it is", Sample::eight, x -> x.setPenCost(9), 9);
        PlotterPlanner x = Sample.three();
        x.setPenCost(500);
        x.undo();
        Check.due("18: behind undo()", x.setPenCost(0), 500);
    }

    private static void promise18ActsOnTheBestPlanAtOnce() {
        PlotterPlanner x = Sample.drawn(0, 0, 1, 0, 0, 1, 0, 2, 0, 1, 51, 0, 60, 0, 0);
        best("50", x, 53 + 100, 2, 0, 4);
        x.setPenCost(0);
        best("0", x, 49, 0, 2, 4);
        x.setPenCost(500);
        best("500", x, 53 + 1000, 2, 0, 4);
        x.setPenCost(501);
        best("501, refused", x, 53 + 1000, 2, 0, 4);
        x.setPenCost(-1);
        best("-1, refused", x, 53 + 1000, 2, 0, 4);
    }

    // Promise 19

    private static void bestCosts() {
        promise19IsNothingWithoutStrokes();
        promise19IsOfOneStroke();
        promise19IsOfEightStrokes();
        promise19IsTheLeastWhereCostsAreEqual();
        promise19FollowsEachChange();
        promise19IsNoEdit();
    }

    // "0 if there are no strokes"
    private static void promise19IsNothingWithoutStrokes() {
        PlotterPlanner x = new PlotterPlanner();
        best("none", x, 0);
        x.setPenCost(500);
        best("none, the highest pen cost", x, 0);
        x.addStroke(99, 99, 98, 98, 3);
        best("one", x, 98 + 500, 1);
        x.undo();
        best("none behind undo()", x, 0);
        x.addStroke(99, 99, 98, 98, 3);
        x.bestCost();
        x.removeStroke(0);
        best("none behind removeStroke", x, 0);
    }

    private static void promise19IsOfOneStroke() {
        best("from (0, 0)", Sample.drawn(0, 0, 99, 99, 0), 50, 0);
        best("to (0, 0)", Sample.drawn(99, 99, 0, 0, 3), 50, 1);
        best("both ends as far", Sample.drawn(99, 0, 99, 99, 2), 99 + 50, 0);
        best("both ends as far, turned", Sample.drawn(99, 99, 0, 99, 2), 99 + 50, 0);
        best("the end nearer by one", Sample.drawn(99, 0, 98, 98, 1), 98 + 50, 1);
        best("the beginning nearer by one", Sample.drawn(98, 98, 0, 99, 1), 98 + 50, 0);
    }

    // "There are at most 8 strokes"
    private static void promise19IsOfEightStrokes() {
        PlotterPlanner x = new PlotterPlanner();
        for (int stroke = 0; stroke < 8; stroke++) {
            x.addStroke(99, 99, 0, 0, stroke % 2);
        }
        x.setPenCost(500);
        best("there and back", x, 2 * 500, 1, 4, 9, 12, 3, 6, 11, 14);
        x.setPenCost(0);
        best("there and back, no pen cost", x, 0, 1, 2, 5, 6, 9, 10, 13, 14);
        PlotterPlanner y = new PlotterPlanner();
        for (int stroke = 0; stroke < 8; stroke++) {
            y.addStroke(99, 99, 99, 98, stroke % 4);
        }
        y.setPenCost(500);
        best("four pens", y, 99 + 4 * 500, 0, 9, 2, 11, 4, 13, 6, 15);
        best("a row", Sample.row(3), 5 + 50, 0, 2, 4, 6, 8, 10, 12, 14);
        PlotterPlanner z = new PlotterPlanner();
        for (int stroke = 7; stroke >= 0; stroke--) {
            z.addStroke(10 * stroke + 10, 5, 10 * stroke, 5, 3);
        }
        best("a row, the other way round", z, 5 + 50, 15, 13, 11, 9, 7, 5, 3, 1);
    }

    // "The best plan is the plan with the least cost": one less, as much, and one more
    private static void promise19IsTheLeastWhereCostsAreEqual() {
        PlotterPlanner x = Sample.drawn(0, 0, 1, 0, 0, 1, 0, 2, 0, 1, 51, 0, 60, 0, 0);
        x.setPenCost(3);
        best("pens are cheaper by one", x, 49 + 3 * 3, 0, 2, 4);
        x.setPenCost(4);
        best("pens cost as much as the way", x, 61, 0, 2, 4);
        x.setPenCost(5);
        best("the way is cheaper by one", x, 53 + 2 * 5, 2, 0, 4);
    }

    private static void promise19FollowsEachChange() {
        PlotterPlanner x = Sample.drawn(10, 0, 20, 0, 0);
        best("one", x, 60, 0);
        x.addStroke(5, 0, 6, 0, 0);
        best("addStroke", x, 5 + 4 + 50, 2, 0);
        x.removeStroke(0);
        best("removeStroke", x, 5 + 50, 0);
        x.undo();
        best("undo()", x, 5 + 4 + 50, 2, 0);
        x.addStroke(6, 0, 5, 0, 0);
        best("one alike", x, 5 + 5 + 50, 2, 4, 0);
        x.removeDuplicates();
        best("removeDuplicates()", x, 5 + 4 + 50, 2, 0);
        // the plan itself does not matter
        x.turnPosition(0);
        best("turnPosition", x, 5 + 4 + 50, 2, 0);
        x.movePosition(0, 1);
        best("movePosition", x, 5 + 4 + 50, 2, 0);
        x.adoptNearest();
        best("adoptNearest()", x, 5 + 4 + 50, 2, 0);
        x.adoptBest();
        best("adoptBest()", x, 5 + 4 + 50, 2, 0);
    }

    private static void promise19IsNoEdit() {
        Sample.answersAlone("19: bestCost()", Sample::none, x -> x.bestCost(), 0);
        Sample.answersAlone("19: bestCost()", Sample::three, x -> x.bestCost(), 47);
        Sample.answersAlone("19: bestCost()", Sample::eight, x -> x.bestCost(), 188);
    }

    // Promise 20

    private static void bestCodes() {
        promise20RefusesANegativePosition();
        promise20FindsNoneBeyondTheEnd();
        promise20TakesTheFirstAndTheLastPosition();
        promise20TakesTheLowestStrokeAtPosition0();
        promise20TakesForwardAtPosition0BeforeTheLowestStrokeAt1();
        promise20TakesTheLowestStrokeAtPosition1BeforeForward();
        promise20TakesForwardAtTheLastPosition();
        promise20GoesPositionByPosition();
        promise20IsNoEdit();
    }

    // "INVALID_ARGUMENT if position is negative", though there is no such position, either
    private static void promise20RefusesANegativePosition() {
        for (int position : Sample.NEGATIVE) {
            String name = "20: bestAt(" + position + ")";
            Sample.refused(name, Sample::none, x -> x.bestAt(position), WRONG);
            Sample.refused(name, Sample::three, x -> x.bestAt(position), WRONG);
            Sample.refused(name, Sample::eight, x -> x.bestAt(position), WRONG);
        }
    }

    // "NOT_FOUND if there is no such position"
    private static void promise20FindsNoneBeyondTheEnd() {
        for (int position : Sample.BEYOND) {
            String name = "20: bestAt(" + position + ")";
            Sample.refused(name, Sample::none, x -> x.bestAt(position), NONE);
            Sample.refused(name, Sample::three, x -> x.bestAt(position), NONE);
            Sample.refused(name, Sample::eight, x -> x.bestAt(position), NONE);
        }
        Sample.refused("20: bestAt(0) of none", Sample::none, x -> x.bestAt(0), NONE);
        Sample.refused("20: bestAt(3) of three", Sample::three, x -> x.bestAt(3), NONE);
        PlotterPlanner x = Sample.row(0);
        Check.due("20: bestAt(7) of eight", x.bestAt(7), 14);
        x.removeStroke(0);
        Check.due("20: bestAt(7) of seven", x.bestAt(7), NONE);
        Check.due("20: bestAt(6) of seven", x.bestAt(6), 12);
        x.undo();
        Check.due("20: bestAt(7) of eight again", x.bestAt(7), 14);
    }

    // "2 times the number of the stroke, plus 1 if the direction is backward"
    private static void promise20TakesTheFirstAndTheLastPosition() {
        Check.due("20: bestAt(0) of three", Sample.three().bestAt(0), 0);
        Check.due("20: bestAt(2) of three", Sample.three().bestAt(2), 2);
        Check.due("20: bestAt(0) of eight", Sample.eight().bestAt(0), 0);
        Check.due("20: bestAt(7) of eight", Sample.eight().bestAt(7), 15);
        Check.due("20: bestAt(0) of one", Sample.drawn(0, 1, 2, 3, 0).bestAt(0), 0);
        Check.due("20: bestAt(0) of one, backward", Sample.drawn(2, 3, 0, 1, 0).bestAt(0), 1);
        best("the highest code first",
                Sample.drawn(9, 0, 9, 9, 0, 9, 9, 9, 20, 0, 9, 0, 0, 0, 0), 50, 5, 0, 2);
    }

    // "Of several, it is the one with the lowest stroke at position 0"
    private static void promise20TakesTheLowestStrokeAtPosition0() {
        // the plan that begins with stroke 1 forward costs as much as with stroke 0 backward
        best("alike", Sample.drawn(20, 0, 10, 0, 0, 10, 0, 20, 0, 0), 60, 1, 3);
        best("alike, forward the lower one",
                Sample.drawn(10, 0, 20, 0, 0, 20, 0, 10, 0, 0), 60, 0, 2);
        best("one pen each", Sample.drawn(0, 0, 9, 0, 3, 0, 0, 9, 0, 0), 100, 0, 3);
    }

    // "then with the direction forward at position 0": before the strokes at later positions count
    private static void promise20TakesForwardAtPosition0BeforeTheLowestStrokeAt1() {
        best("a triangle", Sample.drawn(50, 0, 50, 50, 0, 50, 0, 60, 25, 0, 50, 50, 60, 25, 0),
                100, 0, 4, 3);
    }

    // "then with the lowest stroke at position 1": before its direction counts
    private static void promise20TakesTheLowestStrokeAtPosition1BeforeForward() {
        best("alike behind another",
                Sample.drawn(0, 0, 10, 0, 0, 20, 0, 10, 0, 0, 10, 0, 20, 0, 0), 50, 0, 3, 5);
    }

    // "and so on, position by position"
    private static void promise20TakesForwardAtTheLastPosition() {
        best("an upright one", Sample.drawn(0, 0, 10, 0, 0, 20, 0, 20, 10, 0), 60, 0, 2);
        best("an upright one, turned", Sample.drawn(0, 0, 10, 0, 0, 20, 10, 20, 0, 0), 60, 0, 2);
        best("upright ones", Sample.drawn(10, 0, 10, 9, 0, 20, 0, 20, 9, 1), 120, 0, 2);
    }

    private static void promise20GoesPositionByPosition() {
        PlotterPlanner x = new PlotterPlanner();
        for (int stroke = 0; stroke < 8; stroke++) {
            x.addStroke(5, 5, 9, 9, 0);
        }
        best("eight times the same", x, 5 + 50, 0, 3, 4, 7, 8, 11, 12, 15);
        // all begin at (0, 0), and the ends are one apart: out and back in turn
        PlotterPlanner y = new PlotterPlanner();
        for (int stroke = 0; stroke < 8; stroke++) {
            y.addStroke(0, 0, stroke, 9, 0);
        }
        Check.due("19: a fan: bestCost()", y.bestCost(), 50 + 1 + 1 + 1 + 1);
        int[] codes = {0, 3, 4, 7, 8, 11, 12, 15};
        for (int position = 0; position < 8; position++) {
            Check.due("20: a fan: bestAt(" + position + ")", y.bestAt(position), codes[position]);
        }
    }

    private static void promise20IsNoEdit() {
        Sample.answersAlone("20: bestAt(0)", Sample::three, x -> x.bestAt(0), 0);
        Sample.answersAlone("20: bestAt(7)", Sample::eight, x -> x.bestAt(7), 15);
    }

    // Promise 21

    private static void adoptingBest() {
        promise21OfNoneIsAnEdit();
        promise21OfTheBestPlanIsAnEdit();
        promise21IsUndone();
        promise21ReturnsTheCost();
        promise21TakesTheLowestOfEqualPlans();
    }

    // "An edit that changes nothing is an edit, too."
    private static void promise21OfNoneIsAnEdit() {
        Sample.idleEdit("21: of none", Sample::none, x -> x.adoptBest(), 0);
        PlotterPlanner x = new PlotterPlanner();
        for (int edit = 0; edit < 6; edit++) {
            Check.due("21: of none", x.adoptBest(), 0);
        }
        for (int left = 3; left >= 0; left--) {
            Check.due("21: of none: undo()", x.undo(), left);
        }
        Check.due("21: of none: undo(), no edit left", x.undo(), NONE);
    }

    private static PlotterPlanner bestOfEight() {
        PlotterPlanner planner = Sample.eight();
        planner.adoptBest();
        return planner;
    }

    private static PlotterPlanner bestOfThree() {
        PlotterPlanner planner = Sample.drawn(10, 0, 40, 0, 0, 20, 0, 30, 0, 0);
        planner.adoptBest();
        return planner;
    }

    private static void promise21OfTheBestPlanIsAnEdit() {
        Sample.idleEdit("21: of the best plan", BestPlanEdgesTest::bestOfEight,
                x -> x.adoptBest(), 188);
        Sample.idleEdit("21: of the best plan", BestPlanEdgesTest::bestOfThree,
                x -> x.adoptBest(), 10 + 10 + 50);
        Sample.idleEdit("21: of a row", () -> Sample.row(1), x -> x.adoptBest(), 55);
        Sample.idleEdit("21: of one", () -> Sample.drawn(0, 0, 5, 5, 2), x -> x.adoptBest(), 50);
    }

    private static void promise21IsUndone() {
        Sample.undoneEdit("21: adoptBest()", Sample::three, x -> x.adoptBest(), 47);
        Sample.undoneEdit("21: adoptBest()", Sample::eight, x -> x.adoptBest(), 188);
        Sample.undoneEdit("21: adoptBest() of one", () -> Sample.drawn(5, 5, 1, 1, 2),
                x -> x.adoptBest(), 51);
    }

    // "Returns its cost."
    private static void promise21ReturnsTheCost() {
        PlotterPlanner x = Sample.eight();
        x.setPenCost(500);
        int cost = x.bestCost();
        int[] codes = new int[8];
        for (int position = 0; position < 8; position++) {
            codes[position] = x.bestAt(position);
        }
        Check.due("21: adoptBest()", x.adoptBest(), cost);
        Check.due("21: cost()", x.cost(), cost);
        Check.plan("21: adoptBest()", x, codes);
        PlotterPlanner y = Sample.drawn(99, 99, 0, 0, 0);
        y.setPenCost(0);
        Check.due("21: adoptBest() of one", y.adoptBest(), 0);
        Check.plan("21: adoptBest() of one", y, 1);
    }

    private static void promise21TakesTheLowestOfEqualPlans() {
        PlotterPlanner x = Sample.drawn(10, 0, 20, 0, 0, 20, 0, 10, 0, 0);
        x.movePosition(0, 1);
        x.turnPosition(0);
        x.turnPosition(1);
        // it costs as much as the best plan does, and is not the best plan
        Check.plan("21: another plan", x, 3, 1);
        Check.due("21: another plan: cost()", x.cost(), 60);
        Check.due("21: adoptBest()", x.adoptBest(), 60);
        Check.plan("21: adoptBest()", x, 0, 2);
    }

    // Promise 22

    private static void adoptingNearest() {
        promise22OfNoneIsAnEdit();
        promise22OfTheNearestPlanIsAnEdit();
        promise22IsUndone();
        promise22TakesTheLowestOfEqualStrokes();
        promise22TakesForwardOfEqualDirections();
        promise22WeighsTravelAndPenCost();
        promise22BeginsWithNoPen();
        promise22OfEightStrokes();
        promise22LooksNotAhead();
    }

    // "An edit that changes nothing is an edit, too."
    private static void promise22OfNoneIsAnEdit() {
        Sample.idleEdit("22: of none", Sample::none, x -> x.adoptNearest(), 0);
        PlotterPlanner x = new PlotterPlanner();
        for (int edit = 0; edit < 6; edit++) {
            Check.due("22: of none", x.adoptNearest(), 0);
        }
        for (int left = 3; left >= 0; left--) {
            Check.due("22: of none: undo()", x.undo(), left);
        }
        Check.due("22: of none: undo(), no edit left", x.undo(), NONE);
    }

    private static PlotterPlanner nearestOfThree() {
        PlotterPlanner planner = Sample.drawn(10, 0, 40, 0, 0, 40, 0, 70, 10, 0);
        planner.adoptNearest();
        return planner;
    }

    private static void promise22OfTheNearestPlanIsAnEdit() {
        Sample.idleEdit("22: of the nearest plan", BestPlanEdgesTest::bestOfEight,
                x -> x.adoptNearest(), 188);
        Sample.idleEdit("22: of the nearest plan", BestPlanEdgesTest::nearestOfThree,
                x -> x.adoptNearest(), 60);
        Sample.idleEdit("22: of a row", () -> Sample.row(1), x -> x.adoptNearest(), 55);
        Sample.idleEdit("22: of one", () -> Sample.drawn(0, 0, 5, 5, 2),
                x -> x.adoptNearest(), 50);
    }

    private static void promise22IsUndone() {
        Sample.undoneEdit("22: adoptNearest()", Sample::three, x -> x.adoptNearest(), 57);
        Sample.undoneEdit("22: adoptNearest()", Sample::eight, x -> x.adoptNearest(), 188);
        Sample.undoneEdit("22: adoptNearest() of one", () -> Sample.drawn(5, 5, 1, 1, 2),
                x -> x.adoptNearest(), 51);
    }

    // "of several, the lowest stroke"
    private static void promise22TakesTheLowestOfEqualStrokes() {
        // stroke 0 backward before stroke 1 forward
        nearest("two", Sample.drawn(20, 0, 10, 0, 0, 10, 0, 30, 0, 0), 10 + 10 + 50, 1, 2);
        nearest("two, forward", Sample.drawn(10, 0, 20, 0, 0, 10, 0, 30, 0, 0), 70, 0, 2);
        PlotterPlanner x = Sample.drawn(30, 0, 10, 0, 0, 20, 0, 10, 0, 0);
        x.movePosition(0, 1);
        // the plan before does not matter
        nearest("two, the plan another way round", x, 10 + 10 + 50, 1, 2);
        nearest("the last one nearer by one",
                Sample.drawn(20, 0, 10, 0, 0, 9, 0, 30, 0, 0), 9 + 10 + 50, 2, 0);
    }

    // "and of its two directions forward"
    private static void promise22TakesForwardOfEqualDirections() {
        nearest("upright", Sample.drawn(20, 0, 20, 20, 3), 70, 0);
        nearest("level", Sample.drawn(20, 20, 0, 20, 3), 70, 0);
        nearest("the end nearer by one", Sample.drawn(20, 0, 19, 19, 3), 69, 1);
        nearest("the beginning nearer by one", Sample.drawn(19, 19, 20, 0, 3), 69, 0);
        nearest("at the last position",
                Sample.drawn(0, 0, 10, 0, 0, 20, 10, 20, 0, 0), 10 + 50, 0, 2);
    }

    // "the least sum of travel and pen cost for this position": one less, as much, and one more
    private static void promise22WeighsTravelAndPenCost() {
        int[] cost = {49, 50, 51};
        for (int index = 0; index < 3; index++) {
            PlotterPlanner x = Sample.drawn(0, 0, 1, 0, 0, 1, 0, 2, 0, 1, 51, 0, 60, 0, 0);
            x.setPenCost(cost[index]);
            if (cost[index] == 51) {
                nearest("a pen costs 51", x, 50 + 58 + 2 * 51, 0, 4, 3);
            } else {
                nearest("a pen costs " + cost[index], x, 49 + 3 * cost[index], 0, 2, 4);
            }
        }
        PlotterPlanner y = Sample.drawn(0, 0, 1, 0, 0, 51, 0, 60, 0, 0, 1, 0, 2, 0, 1);
        nearest("as much, the way lower", y, 50 + 58 + 2 * 50, 0, 2, 5);
        y.setPenCost(500);
        nearest("the highest pen cost", y, 50 + 58 + 2 * 500, 0, 2, 5);
        y.setPenCost(0);
        nearest("no pen cost", y, 49, 0, 4, 2);
    }

    // "with no pen": at position 0 each pen costs the same
    private static void promise22BeginsWithNoPen() {
        for (int pen = 0; pen < 4; pen++) {
            PlotterPlanner x = Sample.drawn(8, 8, 9, 9, pen, 7, 7, 1, 9, 3 - pen);
            x.setPenCost(500);
            nearest("pens " + pen + " and " + (3 - pen), x, 7 + 7 + 2 * 500, 2, 0);
        }
    }

    // "of the strokes that remain"
    private static void promise22OfEightStrokes() {
        PlotterPlanner x = new PlotterPlanner();
        for (int stroke = 0; stroke < 8; stroke++) {
            x.addStroke(99, 99, 0, 0, stroke % 2);
        }
        x.setPenCost(500);
        nearest("there and back", x, 2 * 500, 1, 4, 9, 12, 3, 6, 11, 14);
        x.setPenCost(0);
        nearest("there and back, no pen cost", x, 0, 1, 2, 5, 6, 9, 10, 13, 14);
        PlotterPlanner y = new PlotterPlanner();
        for (int stroke = 7; stroke >= 0; stroke--) {
            y.addStroke(10 * stroke + 10, 5, 10 * stroke, 5, 3);
        }
        nearest("a row, the other way round", y, 5 + 50, 15, 13, 11, 9, 7, 5, 3, 1);
    }

    // "made position by position": not the best plan
    private static void promise22LooksNotAhead() {
        PlotterPlanner x = Sample.three();
        nearest("three", x, 57, 0, 2, 5);
        best("three", x, 47, 0, 4, 2);
    }
}
