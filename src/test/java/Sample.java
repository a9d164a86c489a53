import java.util.List;
import java.util.function.Supplier;
import java.util.function.ToIntFunction;

/** Planners in the states that the edge tests begin with, and checks of whole calls on them. */
final class Sample {
    static final int WRONG = PlotterPlanner.INVALID_ARGUMENT;
    static final int FULL = PlotterPlanner.LIMIT_REACHED;
    static final int NONE = PlotterPlanner.NOT_FOUND;
    private static final int LEAST = Integer.MIN_VALUE;
    private static final int GREATEST = Integer.MAX_VALUE;
    /** No positions or runs, and some that a byte or a short would cut to one. */
    static final int[] NEGATIVE = {-1, -2, -8, -256, LEAST + 1, LEAST};
    /** No positions or runs, however many strokes there are. */
    static final int[] BEYOND = {8, 9, 16, 256, 65536, GREATEST - 1, GREATEST};

    static final List<Supplier<PlotterPlanner>> STATES =
            List.of(Sample::none, Sample::three, Sample::eight);

    private Sample() {
    }

    /** No stroke, and no edit that can be undone. */
    static PlotterPlanner none() {
        return new PlotterPlanner();
    }

    /** Three strokes, two linked and one covered, by three edits: less than can be undone. */
    static PlotterPlanner three() {
        PlotterPlanner planner = new PlotterPlanner();
        planner.setPenCost(7);
        planner.setSquareLimit(401);
        planner.setAcceleration(3);
        planner.addStroke(10, 0, 40, 0, 0);
        planner.addStroke(40, 0, 70, 10, 0);
        planner.addStroke(20, 0, 30, 0, 0);
        return planner;
    }

    /** Eight strokes, some alike, covered, linked or turned, by more edits than can be undone. */
    static PlotterPlanner eight() {
        PlotterPlanner planner = new PlotterPlanner();
        planner.setPenCost(9);
        planner.setSquareLimit(403);
        planner.setAcceleration(4);
        planner.addStroke(10, 0, 40, 0, 0);
        planner.addStroke(40, 0, 70, 10, 0);
        planner.addStroke(70, 10, 40, 0, 0);
        planner.addStroke(20, 0, 30, 0, 0);
        planner.addStroke(50, 50, 99, 99, 1);
        planner.addStroke(99, 99, 50, 50, 1);
        planner.addStroke(70, 70, 80, 80, 1);
        planner.addStroke(5, 90, 9, 99, 3);
        planner.movePosition(7, 0);
        planner.turnPosition(0);
        planner.movePosition(4, 3);
        planner.turnPosition(7);
        return planner;
    }

    /** Eight strokes in a row, each linked to the next one. */
    static PlotterPlanner row(int pen) {
        PlotterPlanner planner = new PlotterPlanner();
        for (int stroke = 0; stroke < 8; stroke++) {
            planner.addStroke(10 * stroke, 5, 10 * stroke + 10, 5, pen);
        }
        return planner;
    }

    /** A planner with these strokes, five numbers for each as addStroke takes them. */
    static PlotterPlanner drawn(int... numbers) {
        PlotterPlanner planner = new PlotterPlanner();
        for (int first = 0; first < numbers.length; first += 5) {
            Check.due("addStroke", planner.addStroke(numbers[first], numbers[first + 1],
                    numbers[first + 2], numbers[first + 3], numbers[first + 4]), first / 5);
        }
        return planner;
    }

    /** What the planner answers about strokes, plan, best plan and speeds; at most 90 calls. */
    static String answers(PlotterPlanner planner) {
        StringBuilder text = new StringBuilder();
        int count = planner.strokeCount();
        text.append(count).append(" strokes;");
        for (int stroke = 0; stroke < count; stroke++) {
            text.append(' ').append(planner.penOf(stroke)).append('/')
                    .append(planner.alikeTo(stroke)).append('/').append(planner.coveredBy(stroke));
        }
        text.append("; least runs");
        for (int pen = 0; pen < 4; pen++) {
            text.append(' ').append(planner.leastRuns(pen));
        }
        text.append("; ").append(planOf(planner)).append("; ").append(planner.penChanges())
                .append(" changes, ").append(planner.runCount()).append(" runs; best ")
                .append(planner.bestCost()).append(":");
        for (int position = 0; position < count; position++) {
            text.append(' ').append(planner.bestAt(position)).append('/')
                    .append(planner.runLength(position)).append('/')
                    .append(planner.cornerLimit(position)).append('/')
                    .append(planner.endSquare(position)).append('/')
                    .append(planner.peakSquare(position));
        }
        return text.toString();
    }

    /** The plan and its cost; at most 18 calls. */
    static String planOf(PlotterPlanner planner) {
        StringBuilder text = new StringBuilder("plan");
        int count = planner.strokeCount();
        for (int position = 0; position < count; position++) {
            text.append(' ').append(planner.strokeAt(position))
                    .append(planner.directionAt(position) == 0 ? 'f' : 'b');
        }
        return text.append(" costs ").append(planner.cost()).toString();
    }

    static void same(String what, String got, String want) {
        Check.due(what + ": <" + got + "> for <" + want + ">", got.equals(want) ? 1 : 0, 1);
    }

    /** A call that returns an error changes nothing and is no edit. */
    static void refused(String call, Supplier<PlotterPlanner> state,
            ToIntFunction<PlotterPlanner> calling, int error) {
        PlotterPlanner planner = state.get();
        String before = answers(planner);
        Check.due(call, calling.applyAsInt(planner), error);
        same(call + " changes nothing", answers(planner), before);
        sameUndos(call + " is no edit", planner, state.get());
    }

    /** A question, or a setting that changes nothing: it is no edit, either. */
    static void answersAlone(String call, Supplier<PlotterPlanner> state,
            ToIntFunction<PlotterPlanner> calling, int answer) {
        refused(call, state, calling, answer);
    }

    /** A call that answers without being an edit: nothing changes, and no undo is for it. */
    static void isNoEdit(String call, Supplier<PlotterPlanner> state,
            ToIntFunction<PlotterPlanner> calling) {
        PlotterPlanner planner = state.get();
        calling.applyAsInt(planner);
        PlotterPlanner other = state.get();
        other.setPenCost(0);
        planner.setPenCost(0);
        sameUndos(call + " is no edit", planner, other);
    }

    /** An edit that changes nothing is an edit, too: one undo is for it. */
    static void idleEdit(String call, Supplier<PlotterPlanner> state,
            ToIntFunction<PlotterPlanner> calling, int answer) {
        PlotterPlanner planner = state.get();
        int undos = undosOf(state.get());
        String before = answers(planner);
        Check.due(call, calling.applyAsInt(planner), answer);
        same(call + " changes nothing", answers(planner), before);
        Check.due(call + " is an edit: undo()", planner.undo(), Math.min(undos + 1, 4) - 1);
        same(call + " undone", answers(planner), before);
        PlotterPlanner other = state.get();
        for (int undo = Math.min(undos, 3); undo > 0; undo--) {
            other.undo();
            Check.due(call + ": undo() behind it", planner.undo(), undo - 1);
            same(call + ": undo() behind it", planOf(planner), planOf(other));
        }
        Check.due(call + ": the last undo()", planner.undo(), NONE);
    }

    /** An edit that changes something, undone: all answers are as before it. */
    static void undoneEdit(String call, Supplier<PlotterPlanner> state,
            ToIntFunction<PlotterPlanner> calling, int answer) {
        PlotterPlanner planner = state.get();
        int undos = undosOf(state.get());
        String before = answers(planner);
        Check.due(call, calling.applyAsInt(planner), answer);
        Check.due(call + " changes something", answers(planner).equals(before) ? 1 : 0, 0);
        Check.due(call + " is an edit: undo()", planner.undo(), Math.min(undos + 1, 4) - 1);
        same(call + " undone", answers(planner), before);
    }

    private static void sameUndos(String what, PlotterPlanner planner, PlotterPlanner other) {
        for (int undo = 0; undo < 5; undo++) {
            Check.due(what + ": undo()", planner.undo(), other.undo());
            same(what + ": undo()", planOf(planner), planOf(other));
        }
    }

    private static int undosOf(PlotterPlanner planner) {
        int undos = 0;
        while (undos < 9 && planner.undo() >= 0) {
            undos++;
        }
        return undos;
    }
}
