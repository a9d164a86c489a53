import java.util.function.ToIntBiFunction;

/**
 * Promises 23 to 27 at their edges: a test for each sentence of the document that names one. The
 * sentence stands above the test, the promise in its name.
 */
public final class SpeedEdgesTest {
    private static final int WRONG = Sample.WRONG;
    private static final int NONE = Sample.NONE;
    private static final int LEAST = Integer.MIN_VALUE;
    private static final int GREATEST = Integer.MAX_VALUE;
    /** Next to the ranges, and those that a byte or a short would cut into them. */
    private static final int[] NO_LIMITS =
            {0, 10000, -1, LEAST, GREATEST, LEAST + 1, 10001, -400, 65537, 65936, -65136};
    private static final int[] NO_ACCELERATIONS =
            {0, 100, -1, LEAST, GREATEST, LEAST + 1, 101, -10, 257, 266, -246, 65537, 65546};

    private SpeedEdgesTest() {
    }

    public static void main(String[] args) {
        limits();
        accelerations();
        corners();
        ends();
        peaks();
        Check.finish();
    }

    private static void speeds(String name, PlotterPlanner x, int[] ends, int[] peaks) {
        for (int position = 0; position < ends.length; position++) {
            Check.due("26: " + name + ": endSquare(" + position + ")", x.endSquare(position),
                    ends[position]);
            Check.due("27: " + name + ": peakSquare(" + position + ")", x.peakSquare(position),
                    peaks[position]);
        }
        Check.due("26: " + name + ": endSquare(end)", x.endSquare(ends.length), WRONG);
        Check.due("27: " + name + ": peakSquare(end)", x.peakSquare(ends.length), WRONG);
    }

    private static int[] row(int... numbers) {
        return numbers;
    }

    /** Two strokes in a line, this long and that. */
    private static PlotterPlanner line(int first, int second) {
        return Sample.drawn(0, 7, first, 7, 1, first, 7, first + second, 7, 1);
    }

    // Promise 23

    private static void limits() {
        promise23TakesFrom1To9999();
        promise23RefusesOtherLimits();
        promise23KeepsTheLimitWhereItRefuses();
        promise23ReturnsThePreviousLimit();
        promise23IsNoEdit();
    }

    // "the new V, 1 to 9999"
    private static void promise23TakesFrom1To9999() {
        for (int limit : new int[] {1, 2, 127, 128, 255, 256, 399, 400, 401, 9998, 9999}) {
            PlotterPlanner x = line(50, 49);
            x.setAcceleration(99);
            Check.due("23: setSquareLimit(" + limit + ")", x.setSquareLimit(limit), 400);
            Check.due("23: cornerLimit(0) for " + limit, x.cornerLimit(0), limit);
            int end = Math.min(limit, 2 * 99 * 49);
            Check.due("23: endSquare(0) for " + limit, x.endSquare(0), end);
            Check.due("23: peakSquare(0) for " + limit, x.peakSquare(0),
                    Math.min(limit, (end + 2 * 99 * 50) / 2));
            Check.due("23: behind " + limit, x.setSquareLimit(7), limit);
        }
    }

    // "INVALID_ARGUMENT if limit is out of range"
    private static void promise23RefusesOtherLimits() {
        for (int limit : NO_LIMITS) {
            String name = "23: setSquareLimit(" + limit + ")";
            Sample.refused(name, Sample::none, x -> x.setSquareLimit(limit), WRONG);
            Sample.refused(name, Sample::three, x -> x.setSquareLimit(limit), WRONG);
            Sample.refused(name, Sample::eight, x -> x.setSquareLimit(limit), WRONG);
        }
    }

    // "A call that returns an error changes nothing"
    private static void promise23KeepsTheLimitWhereItRefuses() {
        for (int limit : NO_LIMITS) {
            PlotterPlanner x = new PlotterPlanner();
            x.setSquareLimit(limit);
            Check.due("23: behind " + limit + ", of none", x.setSquareLimit(9999), 400);
            x.setSquareLimit(limit);
            Check.due("23: behind " + limit + ", with 9999", x.setSquareLimit(1), 9999);
            x.setSquareLimit(limit);
            Check.due("23: behind " + limit + ", with 1", x.setSquareLimit(2), 1);
        }
    }

    // "Returns the previous V"
    private static void promise23ReturnsThePreviousLimit() {
        PlotterPlanner x = new PlotterPlanner();
        int previous = 400;
        for (int limit : new int[] {1, 1, 9999, 9999, 2, 9998, 400, 400, 1}) {
            Check.due("23: setSquareLimit(" + limit + ")", x.setSquareLimit(limit), previous);
            previous = limit;
        }
        Check.due("23: the acceleration stays", x.setAcceleration(1), 10);
        Check.due("23: the pen cost stays", x.setPenCost(1), 50);
    }

    // the edits of "Edits and errors" do not have it; undo() restores "the strokes and the plan"
    private static void promise23IsNoEdit() {
        Sample.isNoEdit("23: setSquareLimit(1)", Sample::none, x -> x.setSquareLimit(1));
        Sample.isNoEdit("23: setSquareLimit(9999)", Sample::three, x -> x.setSquareLimit(9999));
        Sample.isNoEdit("23: setSquareLimit(9999)", Sample::eight, x -> x.setSquareLimit(9999));
        Sample.answersAlone("23: as it is", Sample::three, x -> x.setSquareLimit(401), 401);
        Sample.answersAlone("23: as it is", Sample::eight, x -> x.setSquareLimit(403), 403);
        PlotterPlanner x = Sample.three();
        x.setSquareLimit(9999);
        x.undo();
        Check.due("23: behind undo()", x.setSquareLimit(1), 9999);
    }

    // Promise 24

    private static void accelerations() {
        promise24TakesFrom1To99();
        promise24RefusesOtherAccelerations();
        promise24KeepsTheAccelerationWhereItRefuses();
        promise24ReturnsThePreviousAcceleration();
        promise24IsNoEdit();
    }

    // "the new A, 1 to 99"
    private static void promise24TakesFrom1To99() {
        for (int acceleration : new int[] {1, 2, 9, 10, 11, 98, 99}) {
            PlotterPlanner x = line(1, 2);
            Check.due("24: setAcceleration(" + acceleration + ")",
                    x.setAcceleration(acceleration), 10);
            Check.due("24: endSquare(0) for " + acceleration, x.endSquare(0), 2 * acceleration);
            Check.due("24: peakSquare(0) for " + acceleration, x.peakSquare(0), 2 * acceleration);
            Check.due("24: peakSquare(1) for " + acceleration, x.peakSquare(1), 3 * acceleration);
            Check.due("24: behind " + acceleration, x.setAcceleration(7), acceleration);
        }
    }

    // "INVALID_ARGUMENT if acceleration is out of range"
    private static void promise24RefusesOtherAccelerations() {
        for (int acceleration : NO_ACCELERATIONS) {
            String name = "24: setAcceleration(" + acceleration + ")";
            Sample.refused(name, Sample::none, x -> x.setAcceleration(acceleration), WRONG);
            Sample.refused(name, Sample::three, x -> x.setAcceleration(acceleration), WRONG);
            Sample.refused(name, Sample::eight, x -> x.setAcceleration(acceleration), WRONG);
        }
    }

    // "A call that returns an error changes nothing"
    private static void promise24KeepsTheAccelerationWhereItRefuses() {
        for (int acceleration : NO_ACCELERATIONS) {
            PlotterPlanner x = new PlotterPlanner();
            x.setAcceleration(acceleration);
            Check.due("24: behind " + acceleration + ", of none", x.setAcceleration(99), 10);
            x.setAcceleration(acceleration);
            Check.due("24: behind " + acceleration + ", with 99", x.setAcceleration(1), 99);
            x.setAcceleration(acceleration);
            Check.due("24: behind " + acceleration + ", with 1", x.setAcceleration(2), 1);
        }
    }

    // "Returns the previous A"
    private static void promise24ReturnsThePreviousAcceleration() {
        PlotterPlanner x = new PlotterPlanner();
        int previous = 10;
        for (int acceleration : new int[] {1, 1, 99, 99, 2, 98, 10, 10, 1}) {
            Check.due("24: setAcceleration(" + acceleration + ")",
                    x.setAcceleration(acceleration), previous);
            previous = acceleration;
        }
        Check.due("24: the square limit stays", x.setSquareLimit(1), 400);
        Check.due("24: the pen cost stays", x.setPenCost(1), 50);
    }

    // the edits of "Edits and errors" do not have it; undo() restores "the strokes and the plan"
    private static void promise24IsNoEdit() {
        Sample.isNoEdit("24: setAcceleration(1)", Sample::none, x -> x.setAcceleration(1));
        Sample.isNoEdit("24: setAcceleration(99)", Sample::three, x -> x.setAcceleration(99));
        Sample.isNoEdit("24: setAcceleration(99)", Sample::eight, x -> x.setAcceleration(99));
        Sample.answersAlone("24: as it is", Sample::three, x -> x.setAcceleration(3), 3);
        Sample.answersAlone("24: as it is", Sample::eight, x -> x.setAcceleration(4), 4);
        PlotterPlanner x = Sample.three();
        x.setAcceleration(99);
        x.undo();
        Check.due("24: behind undo()", x.setAcceleration(1), 99);
    }

    // Promises 25, 26 and 27: which positions there are

    /** "INVALID_ARGUMENT if there is no such position" */
    private static void refusesPositionsThatAreNone(String name,
            ToIntBiFunction<PlotterPlanner, Integer> call) {
        for (int[] positions : new int[][] {Sample.NEGATIVE, Sample.BEYOND}) {
            for (int far : positions) {
                String at = name + "(" + far + ")";
                Sample.refused(at, Sample::none, x -> call.applyAsInt(x, far), WRONG);
                Sample.refused(at, Sample::three, x -> call.applyAsInt(x, far), WRONG);
                Sample.refused(at, Sample::eight, x -> call.applyAsInt(x, far), WRONG);
            }
        }
        Sample.refused(name + "(0) of none", Sample::none, x -> call.applyAsInt(x, 0), WRONG);
        Sample.refused(name + "(1) of one", () -> Sample.drawn(0, 0, 9, 9, 0),
                x -> call.applyAsInt(x, 1), WRONG);
        Sample.refused(name + "(3) of three", Sample::three, x -> call.applyAsInt(x, 3), WRONG);
        PlotterPlanner x = Sample.row(0);
        x.removeStroke(0);
        Check.due(name + "(7) of seven", call.applyAsInt(x, 7), WRONG);
        x.undo();
        Check.due(name + "(7) of eight again is there",
                call.applyAsInt(x, 7) == WRONG ? 1 : 0, 0);
    }

    // Promise 25

    private static void corners() {
        promise25RefusesPositionsThatAreNone();
        promise25FindsNoneAtTheEndOfARun();
        promise25IsTheLimitStraightOn();
        promise25IsAQuarterWhereTheScalarProductIsGreaterThan0();
        promise25IsNothingOtherwise();
        promise25RoundsTheQuarterDown();
        promise25FollowsTheDirectionsOfThePlan();
        promise25TakesTheFirstAndTheLastCorner();
        promise25IsOfThePlanAsItIs();
        promise25IsNoEdit();
    }

    // "INVALID_ARGUMENT .. rather than .. NOT_FOUND": such a position is no run's, either
    private static void promise25RefusesPositionsThatAreNone() {
        refusesPositionsThatAreNone("25: cornerLimit", (x, position) -> x.cornerLimit(position));
    }

    // "NOT_FOUND if the position is the last one of its run"
    private static void promise25FindsNoneAtTheEndOfARun() {
        Sample.refused("25: cornerLimit(0) of one", () -> Sample.drawn(0, 0, 9, 9, 0),
                x -> x.cornerLimit(0), NONE);
        Sample.refused("25: cornerLimit(1) of three", Sample::three, x -> x.cornerLimit(1), NONE);
        Sample.refused("25: cornerLimit(2) of three", Sample::three, x -> x.cornerLimit(2), NONE);
        Sample.refused("25: cornerLimit(7) of eight", Sample::eight, x -> x.cornerLimit(7), NONE);
        Sample.refused("25: cornerLimit(7) of a row", () -> Sample.row(0),
                x -> x.cornerLimit(7), NONE);
        Sample.refused("25: the next one has another pen",
                () -> Sample.drawn(0, 0, 9, 9, 0, 9, 9, 20, 20, 1), x -> x.cornerLimit(0), NONE);
        Sample.refused("25: the next one begins beside it",
                () -> Sample.drawn(0, 0, 9, 9, 0, 9, 10, 20, 21, 0), x -> x.cornerLimit(0), NONE);
        Sample.refused("25: the next one ends there",
                () -> Sample.drawn(0, 0, 9, 9, 0, 20, 20, 9, 9, 0), x -> x.cornerLimit(0), NONE);
    }

    /** The corner limit between two strokes with these vectors, in the middle of the sheet. */
    private static int corner(int dx, int dy, int nextDx, int nextDy) {
        int x = Math.max(dx, -Math.min(nextDx, 0));
        int y = Math.max(dy, -Math.min(nextDy, 0));
        x = Math.max(x, 0);
        y = Math.max(y, 0);
        PlotterPlanner planner = Sample.drawn(x - dx, y - dy, x, y, 2,
                x, y, x + nextDx, y + nextDy, 2);
        planner.setSquareLimit(9998);
        return planner.cornerLimit(0);
    }

    /** The same corner turned round by right angles, and mirrored. */
    private static void cornerIs(int want, int dx, int dy, int nextDx, int nextDy) {
        String name = "25: (" + dx + ", " + dy + ") and (" + nextDx + ", " + nextDy + ")";
        Check.due(name, corner(dx, dy, nextDx, nextDy), want);
        Check.due(name + " by a right angle", corner(-dy, dx, -nextDy, nextDx), want);
        Check.due(name + " by two", corner(-dx, -dy, -nextDx, -nextDy), want);
        Check.due(name + " by three", corner(dy, -dx, nextDy, -nextDx), want);
        Check.due(name + " mirrored", corner(dy, dx, nextDy, nextDx), want);
        Check.due(name + " back to front", corner(nextDx, nextDy, dx, dy), want);
    }

    // "V if .. their vectors are positive multiples of each other"
    private static void promise25IsTheLimitStraightOn() {
        cornerIs(9998, 1, 0, 1, 0);
        cornerIs(9998, 1, 0, 98, 0);
        cornerIs(9998, 50, 0, 49, 0);
        cornerIs(9998, 49, 49, 50, 50);
        cornerIs(9998, 1, 1, 98, 98);
        cornerIs(9998, 3, 4, 3, 4);
        cornerIs(9998, 3, 4, 6, 8);
        // one and a half of each other
        cornerIs(9998, 4, 6, 6, 9);
        cornerIs(9998, 10, 2, 15, 3);
        cornerIs(9998, 0, 40, 0, 59);
        cornerIs(9998, 1, 33, 2, 66);
    }

    // "V / 4, rounded down, if the scalar product of their vectors is greater than 0"
    private static void promise25IsAQuarterWhereTheScalarProductIsGreaterThan0() {
        // as near to straight on as it goes
        cornerIs(2499, 49, 48, 50, 49);
        cornerIs(2499, 98, 1, 1, 0);
        cornerIs(2499, 1, 33, 2, 65);
        cornerIs(2499, 3, 4, 4, 3);
        cornerIs(2499, 1, 0, 1, 1);
        // a scalar product of 1
        cornerIs(2499, 1, 0, 1, 99);
        cornerIs(2499, 49, 48, 49, -50);
        cornerIs(2499, 5, 8, -3, 2);
        cornerIs(2499, 2, 1, -1, 3);
    }

    // "and 0 otherwise"
    private static void promise25IsNothingOtherwise() {
        // right angles
        cornerIs(0, 1, 0, 0, 1);
        cornerIs(0, 99, 0, 0, 99);
        cornerIs(0, 3, 4, -4, 3);
        cornerIs(0, 10, 20, 40, -20);
        cornerIs(0, 49, 48, 48, -49);
        // a scalar product of -1
        cornerIs(0, 1, 0, -1, 99);
        cornerIs(0, 48, 49, 50, -49);
        cornerIs(0, 5, 8, 3, -2);
        cornerIs(0, 2, 1, 1, -3);
        // back: a negative multiple is none of the positive ones
        cornerIs(0, 3, 4, -3, -4);
        cornerIs(0, 3, 4, -6, -8);
        cornerIs(0, 99, 99, -99, -99);
        cornerIs(0, 99, 99, -1, -1);
        cornerIs(0, 0, 5, 0, -9);
        cornerIs(0, 49, 48, -50, -49);
    }

    private static void promise25RoundsTheQuarterDown() {
        int[] limits = {1, 2, 3, 4, 5, 7, 8, 399, 400, 401, 402, 403, 404, 9996, 9998, 9999};
        int[] quarters = {0, 0, 0, 1, 1, 1, 2, 99, 100, 100, 100, 100, 101, 2499, 2499, 2499};
        PlotterPlanner x = Sample.drawn(0, 0, 40, 0, 0, 40, 0, 80, 1, 0);
        for (int index = 0; index < limits.length; index++) {
            x.setSquareLimit(limits[index]);
            Check.due("25: a quarter of " + limits[index], x.cornerLimit(0), quarters[index]);
        }
    }

    // "both strokes, in their directions"
    private static void promise25FollowsTheDirectionsOfThePlan() {
        PlotterPlanner x = Sample.drawn(20, 0, 30, 0, 0, 10, 0, 20, 0, 0);
        Check.due("25: forward", x.cornerLimit(0), NONE);
        x.turnPosition(0);
        Check.due("25: the first one turned", x.cornerLimit(0), NONE);
        x.turnPosition(1);
        Check.due("25: both turned", x.cornerLimit(0), 400);
        PlotterPlanner y = Sample.drawn(30, 0, 20, 0, 0, 30, 0, 40, 0, 0);
        y.turnPosition(0);
        Check.due("25: the first one backward", y.cornerLimit(0), 400);
        PlotterPlanner z = Sample.drawn(20, 0, 30, 0, 0, 40, 7, 30, 0, 0);
        z.turnPosition(1);
        Check.due("25: the second one backward", z.cornerLimit(0), 100);
        z.movePosition(0, 1);
        Check.due("25: the other way round", z.cornerLimit(0), NONE);
        z.turnPosition(0);
        z.turnPosition(1);
        Check.due("25: the other way round, turned", z.cornerLimit(0), 100);
    }

    private static void promise25TakesTheFirstAndTheLastCorner() {
        PlotterPlanner x = Sample.row(1);
        for (int position = 0; position < 7; position++) {
            Check.due("25: cornerLimit(" + position + ") of a row", x.cornerLimit(position), 400);
        }
        Check.due("25: cornerLimit(0) of three", Sample.three().cornerLimit(0), 100);
    }

    /** Asked at once behind each change, with no other question about speeds before it. */
    private static void promise25IsOfThePlanAsItIs() {
        PlotterPlanner x = Sample.drawn(0, 0, 9, 0, 0, 9, 0, 18, 0, 0, 18, 0, 27, 1, 0);
        Check.due("25: the first question", x.cornerLimit(1), 100);
        x.setSquareLimit(9999);
        Check.due("25: behind setSquareLimit(9999)", x.cornerLimit(1), 2499);
        x.movePosition(0, 2);
        Check.due("25: behind movePosition(0, 2)", x.cornerLimit(1), NONE);
        x.adoptBest();
        Check.due("25: behind adoptBest()", x.cornerLimit(0), 9999);
        x.turnPosition(2);
        Check.due("25: behind turnPosition(2)", x.cornerLimit(1), NONE);
        x.adoptNearest();
        Check.due("25: behind adoptNearest()", x.cornerLimit(1), 2499);
        x.removeStroke(0);
        Check.due("25: behind removeStroke(0)", x.cornerLimit(1), NONE);
        x.addStroke(27, 1, 36, 2, 0);
        Check.due("25: behind addStroke", x.cornerLimit(1), 9999);
        x.undo();
        x.undo();
        Check.due("25: behind undo()", x.cornerLimit(1), 2499);
    }

    private static void promise25IsNoEdit() {
        Sample.answersAlone("25: cornerLimit(0)", Sample::three, x -> x.cornerLimit(0), 100);
        Sample.answersAlone("25: cornerLimit(0)", () -> Sample.row(0), x -> x.cornerLimit(0), 400);
    }

    // Promise 26

    private static void ends() {
        promise26RefusesPositionsThatAreNone();
        promise26IsNothingAtTheEndOfEachRun();
        promise26BeginsEachRunAtRest();
        promise26IsAtMostTheCornerLimit();
        promise26IsAtMostWhatIsReached();
        promise26IsAtMostWhatIsBraked();
        promise26TakesTheGreaterDifference();
        promise26BrakesOverSeveralStrokes();
        promise26OfEightStrokes();
        promise26And27AtTheHighestSettings();
        promise26And27AtTheLowestSettings();
        promise26IsOfThePlanAsItIs();
        promise26IsNoEdit();
    }

    private static void promise26RefusesPositionsThatAreNone() {
        refusesPositionsThatAreNone("26: endSquare", (x, position) -> x.endSquare(position));
    }

    // "e(k) is 0 at the end of each run"
    private static void promise26IsNothingAtTheEndOfEachRun() {
        Check.due("26: of one", Sample.drawn(0, 0, 99, 99, 0).endSquare(0), 0);
        Check.due("26: endSquare(7) of a row", Sample.row(0).endSquare(7), 0);
        PlotterPlanner pens = Sample.drawn(0, 0, 40, 0, 0, 40, 0, 80, 0, 1);
        Check.due("26: before another pen", pens.endSquare(0), 0);
        PlotterPlanner apart = Sample.drawn(0, 0, 40, 0, 0, 41, 0, 80, 0, 0);
        Check.due("26: before a travel", apart.endSquare(0), 0);
    }

    // "b(k) is 0 at the beginning of each run"
    private static void promise26BeginsEachRunAtRest() {
        PlotterPlanner x = Sample.drawn(0, 0, 20, 0, 0, 20, 0, 40, 0, 0,
                40, 0, 41, 0, 1, 41, 0, 43, 0, 1, 50, 0, 52, 0, 1, 52, 0, 99, 0, 1);
        speeds("three runs", x, row(400, 0, 20, 0, 40, 0), row(400, 400, 20, 30, 40, 400));
    }

    // "e(k) is at most the corner limit between k and k + 1": less is reached, as much, and more
    private static void promise26IsAtMostTheCornerLimit() {
        int[] straight = {19, 20, 21};
        int[] squares = {380, 400, 400};
        for (int index = 0; index < 3; index++) {
            Check.due("26: straight on behind " + straight[index],
                    line(straight[index], 30).endSquare(0), squares[index]);
        }
        int[] lengths = {4, 5, 6};
        int[] quarters = {80, 100, 100};
        for (int index = 0; index < 3; index++) {
            int length = lengths[index];
            PlotterPlanner x = Sample.drawn(0, 0, length, 0, 0, length, 0, length + 9, 1, 0);
            Check.due("26: a turn behind " + length, x.endSquare(0), quarters[index]);
        }
        PlotterPlanner y = Sample.drawn(0, 0, 50, 0, 0, 50, 0, 50, 50, 0);
        Check.due("26: a right angle", y.endSquare(0), 0);
        Check.due("26: a right angle, at the end", y.endSquare(1), 0);
    }

    // "e(k) is at most b(k) + 2 * A * n(k)"
    private static void promise26IsAtMostWhatIsReached() {
        PlotterPlanner x = line(1, 98);
        Check.due("26: behind 1", x.endSquare(0), 20);
        PlotterPlanner y = Sample.drawn(0, 0, 3, 0, 0, 3, 0, 10, 0, 0, 10, 0, 99, 0, 0);
        speeds("3 and 7", y, row(60, 200, 0), row(60, 200, 400));
        y.setAcceleration(20);
        speeds("3 and 7, A is 20", y, row(120, 400, 0), row(120, 400, 400));
        y.setAcceleration(21);
        speeds("3 and 7, A is 21", y, row(126, 400, 0), row(126, 400, 400));
    }

    // "b(k) is at most e(k) + 2 * A * n(k)": less is braked, as much, and more
    private static void promise26IsAtMostWhatIsBraked() {
        int[] straight = {1, 19, 20, 21};
        int[] squares = {20, 380, 400, 400};
        for (int index = 0; index < 4; index++) {
            Check.due("26: straight on before " + straight[index],
                    line(30, straight[index]).endSquare(0), squares[index]);
        }
        int[] lengths = {4, 5, 6};
        int[] quarters = {80, 100, 100};
        for (int index = 0; index < 3; index++) {
            PlotterPlanner x = Sample.drawn(0, 0, 9, 1, 0, 9, 1, 9 + lengths[index], 1, 0);
            Check.due("26: a turn before " + lengths[index], x.endSquare(0), quarters[index]);
        }
    }

    // "the greater one of |x - x'| and |y - y'|"
    private static void promise26TakesTheGreaterDifference() {
        PlotterPlanner x = Sample.drawn(10, 10, 12, 13, 0, 12, 13, 12, 99, 0);
        Check.due("26: (2, 3)", x.endSquare(0), 60);
        PlotterPlanner y = Sample.drawn(10, 10, 13, 12, 0, 13, 12, 99, 12, 0);
        Check.due("26: (3, 2)", y.endSquare(0), 60);
        PlotterPlanner z = Sample.drawn(50, 50, 47, 48, 0, 47, 48, 0, 48, 0);
        Check.due("26: (-3, -2)", z.endSquare(0), 60);
        PlotterPlanner w = Sample.drawn(50, 50, 52, 47, 0, 52, 47, 52, 0, 0);
        Check.due("26: (2, -3)", w.endSquare(0), 60);
        PlotterPlanner v = Sample.drawn(0, 0, 30, 0, 0, 30, 0, 32, 3, 0);
        Check.due("26: before (2, 3)", v.endSquare(0), 60);
        PlotterPlanner u = Sample.drawn(40, 50, 43, 53, 0, 43, 53, 46, 56, 0);
        speeds("(3, 3) twice", u, row(60, 0), row(60, 60));
    }

    // "The speeds in a run are the greatest ones for which all of these hold"
    private static void promise26BrakesOverSeveralStrokes() {
        PlotterPlanner x = Sample.drawn(0, 0, 50, 0, 0, 50, 0, 55, 0, 0, 55, 0, 60, 0, 0,
                60, 0, 65, 0, 0, 65, 0, 65, 9, 0);
        speeds("three short ones at the end", x, row(300, 200, 100, 0, 0),
                row(400, 300, 200, 100, 90));
        PlotterPlanner y = Sample.drawn(65, 9, 65, 0, 0, 65, 0, 60, 0, 0, 60, 0, 55, 0, 0,
                55, 0, 50, 0, 0, 50, 0, 0, 0, 0);
        speeds("three short ones at the beginning", y, row(0, 100, 200, 300, 0),
                row(90, 100, 200, 300, 400));
    }

    // "There are at most 8 strokes"
    private static void promise26OfEightStrokes() {
        speeds("a row", Sample.row(0), row(200, 400, 400, 400, 400, 400, 200, 0),
                row(200, 400, 400, 400, 400, 400, 400, 200));
        PlotterPlanner x = Sample.row(3);
        x.setSquareLimit(9999);
        speeds("a row, braked from its middle", x, row(200, 400, 600, 800, 600, 400, 200, 0),
                row(200, 400, 600, 800, 800, 600, 400, 200));
        PlotterPlanner y = Sample.row(2);
        for (int position = 0; position < 8; position++) {
            y.turnPosition(position);
        }
        speeds("eight runs", y, row(0, 0, 0, 0, 0, 0, 0, 0),
                row(100, 100, 100, 100, 100, 100, 100, 100));
    }

    // "The square limit V is from 1 to 9999", "the acceleration A is from 1 to 99"
    private static void promise26And27AtTheHighestSettings() {
        PlotterPlanner x = Sample.drawn(0, 0, 1, 50, 0, 1, 50, 50, 50, 0, 50, 50, 98, 50, 0,
                98, 50, 99, 99, 0);
        x.setSquareLimit(9999);
        x.setAcceleration(99);
        speeds("the highest settings", x, row(2499, 9999, 2499, 0),
                row((2499 + 198 * 50) / 2, 9999, 9999, (2499 + 198 * 49) / 2));
        PlotterPlanner y = line(50, 49);
        y.setSquareLimit(9999);
        y.setAcceleration(99);
        speeds("the longest line", y, row(9702, 0), row((9702 + 9900) / 2, 9702));
    }

    private static void promise26And27AtTheLowestSettings() {
        PlotterPlanner x = Sample.drawn(0, 0, 1, 0, 0, 1, 0, 2, 0, 0, 2, 0, 4, 1, 0);
        x.setSquareLimit(1);
        x.setAcceleration(1);
        speeds("the lowest settings", x, row(1, 0, 0), row(1, 1, 1));
        x.setSquareLimit(9999);
        speeds("the lowest acceleration", x, row(2, 4, 0), row(2, 4, 4));
        x.setSquareLimit(1);
        x.setAcceleration(99);
        speeds("the lowest limit", x, row(1, 0, 0), row(1, 1, 1));
    }

    /** Asked at once behind each change, with no other question about speeds before it. */
    private static void promise26IsOfThePlanAsItIs() {
        PlotterPlanner x = Sample.drawn(0, 0, 3, 0, 0, 3, 0, 23, 0, 0, 23, 0, 28, 0, 0);
        Check.due("26: the first question", x.endSquare(1), 100);
        x.setAcceleration(50);
        Check.due("26: behind setAcceleration(50)", x.endSquare(1), 400);
        x.setSquareLimit(9999);
        Check.due("26: behind setSquareLimit(9999)", x.endSquare(1), 500);
        x.turnPosition(2);
        Check.due("26: behind turnPosition(2)", x.endSquare(1), 0);
        x.adoptBest();
        Check.due("26: behind adoptBest()", x.endSquare(1), 500);
        x.movePosition(0, 2);
        Check.due("26: behind movePosition(0, 2)", x.endSquare(1), 0);
        x.adoptNearest();
        Check.due("26: behind adoptNearest()", x.endSquare(1), 500);
        x.addStroke(28, 0, 99, 0, 0);
        Check.due("26: behind addStroke", x.endSquare(1), 300 + 2000);
        x.removeStroke(0);
        Check.due("26: behind removeStroke(0)", x.endSquare(1), 2000 + 500);
        x.undo();
        x.undo();
        Check.due("26: behind undo()", x.endSquare(1), 500);
    }

    private static void promise26IsNoEdit() {
        Sample.answersAlone("26: endSquare(0)", Sample::three, x -> x.endSquare(0), 100);
        Sample.answersAlone("26: endSquare(7)", () -> Sample.row(0), x -> x.endSquare(7), 0);
    }

    // Promise 27

    private static void peaks() {
        promise27RefusesPositionsThatAreNone();
        promise27IsTheSmallerOfBoth();
        promise27RoundsDown();
        promise27CountsBothSpeeds();
        promise27IsOfThePlanAsItIs();
        promise27IsNoEdit();
    }

    private static void promise27RefusesPositionsThatAreNone() {
        refusesPositionsThatAreNone("27: peakSquare", (x, position) -> x.peakSquare(position));
    }

    // "the smaller one of V and (b(k) + e(k) + 2 * A * n(k)) / 2": V less by one, as much, more
    private static void promise27IsTheSmallerOfBoth() {
        int[] limits = {1, 9800, 9801, 9802, 9999};
        int[] peaks = {1, 9800, 9801, 9801, 9801};
        for (int index = 0; index < 5; index++) {
            PlotterPlanner x = Sample.drawn(0, 0, 99, 99, 0);
            x.setSquareLimit(limits[index]);
            x.setAcceleration(99);
            Check.due("27: of one, V is " + limits[index], x.peakSquare(0), peaks[index]);
        }
        int[] lengths = {1, 39, 40, 41, 99};
        int[] squares = {10, 390, 400, 400, 400};
        for (int index = 0; index < 5; index++) {
            PlotterPlanner x = Sample.drawn(0, 0, 0, lengths[index], 0);
            Check.due("27: of one, as long as " + lengths[index], x.peakSquare(0), squares[index]);
        }
        PlotterPlanner y = Sample.drawn(0, 0, 1, 0, 0);
        y.setSquareLimit(1);
        y.setAcceleration(1);
        Check.due("27: the least peak", y.peakSquare(0), 1);
    }

    // "rounded down"
    private static void promise27RoundsDown() {
        int[] lengths = {1, 2, 5, 6, 7, 8};
        int[] peaks = {1, 2, 5, 6, 7, 7};
        for (int index = 0; index < 6; index++) {
            int length = lengths[index];
            PlotterPlanner x = Sample.drawn(0, 0, length, 0, 0, length, 0, length + 9, 1, 0);
            x.setSquareLimit(7);
            x.setAcceleration(1);
            Check.due("27: endSquare(0) for " + length, x.endSquare(0), 1);
            Check.due("27: half of " + (2 * length + 1), x.peakSquare(0), peaks[index]);
        }
        // b(1) is odd and e(1) as well: the sum is even again
        PlotterPlanner y = Sample.drawn(0, 0, 9, 0, 0, 9, 0, 18, 1, 0, 18, 1, 27, 1, 0);
        y.setSquareLimit(20);
        y.setAcceleration(1);
        speeds("5 at both ends", y, row(5, 5, 0), row((5 + 18) / 2, 14, (5 + 18) / 2));
    }

    // "b(k) + e(k)"
    private static void promise27CountsBothSpeeds() {
        PlotterPlanner x = Sample.drawn(0, 0, 3, 0, 0, 3, 0, 23, 0, 0, 23, 0, 28, 0, 0);
        speeds("3, 20 and 5", x, row(60, 100, 0), row(60, (60 + 100 + 400) / 2, 100));
        PlotterPlanner y = Sample.drawn(0, 0, 30, 0, 0, 30, 0, 40, 0, 0, 40, 0, 70, 0, 0);
        y.setSquareLimit(100);
        speeds("at the limit all the way", y, row(100, 100, 0), row(100, 100, 100));
    }

    /** Asked at once behind each change, with no other question about speeds before it. */
    private static void promise27IsOfThePlanAsItIs() {
        PlotterPlanner x = Sample.drawn(0, 0, 3, 0, 0, 3, 0, 23, 0, 0, 23, 0, 28, 0, 0);
        Check.due("27: the first question", x.peakSquare(1), (60 + 100 + 400) / 2);
        x.setAcceleration(20);
        Check.due("27: behind setAcceleration(20)", x.peakSquare(1), 400);
        x.setSquareLimit(9999);
        Check.due("27: behind setSquareLimit(9999)", x.peakSquare(1), (120 + 200 + 800) / 2);
        x.turnPosition(0);
        Check.due("27: behind turnPosition(0)", x.peakSquare(1), (200 + 800) / 2);
        x.removeStroke(2);
        Check.due("27: behind removeStroke(2)", x.peakSquare(1), 800 / 2);
        x.undo();
        x.undo();
        Check.due("27: behind undo()", x.peakSquare(1), (120 + 200 + 800) / 2);
        x.movePosition(0, 2);
        Check.due("27: behind movePosition(0, 2)", x.peakSquare(1), 200);
        x.adoptBest();
        Check.due("27: behind adoptBest()", x.peakSquare(1), (120 + 200 + 800) / 2);
    }

    private static void promise27IsNoEdit() {
        Sample.answersAlone("27: peakSquare(0)", Sample::three, x -> x.peakSquare(0), 140);
        Sample.answersAlone("27: peakSquare(7)", Sample::eight, x -> x.peakSquare(7), 40);
    }
}
