import java.util.ArrayList;
import java.util.List;
import java.util.function.Supplier;
import java.util.function.ToIntFunction;

/**
 * Promise 28 and "Edits and errors" at their edges: a test for each sentence of the document that
 * names one. The sentence stands above the test, the promise in its name.
 */
public final class HistoryEdgesTest {
    private static final int WRONG = Sample.WRONG;
    private static final int FULL = Sample.FULL;
    private static final int NONE = Sample.NONE;
    private static final int MOST_CALLS = 512;

    private record Call(String name, ToIntFunction<PlotterPlanner> calling, int answer) {
    }

    private HistoryEdgesTest() {
    }

    public static void main(String[] args) {
        promise28FindsNoEditOfANewObject();
        promise28FindsNoEditBehindTheLastOne();
        promise28CountsTheEditsThatAreLeft();
        promise28UndoesTheLast4Edits();
        promise28LeavesAnEditBeforeTheLast4();
        promise28UndoesTheLatestThatIsNotUndone();
        promise28FollowsEachOrderOfEditsAndUndos();
        promise28UndoesTheFirstAndTheEighthStroke();
        promise28UndoesEachEdit();
        promise28RestoresTheStrokesAsTheyWere();
        promise28LeavesTheSettings();
        promise28IsItselfNoEdit();
        editsThatChangeNothingAreEdits();
        editsThatChangeNothingPushOutTheOthers();
        questionsAndSettingsAreNoEdits();
        refusedCallsAreNoEdits();
        theLowestErrorIsReturned();
        objectsLastFor512Calls();
        Check.finish();
    }

    private static void undos(String name, PlotterPlanner x, int... answers) {
        for (int answer : answers) {
            Check.due("28: " + name + ": undo()", x.undo(), answer);
        }
    }

    // "NOT_FOUND if there is none", and "A call that returns an error changes nothing"
    private static void promise28FindsNoEditOfANewObject() {
        Sample.refused("28: undo() of a new object", Sample::none, x -> x.undo(), NONE);
        undos("a new object", new PlotterPlanner(), NONE, NONE, NONE, NONE, NONE, NONE);
        PlotterPlanner x = new PlotterPlanner();
        x.undo();
        x.undo();
        Check.due("28: addStroke behind it", x.addStroke(1, 2, 3, 4, 0), 0);
        undos("one edit behind it", x, 0, NONE);
        PlotterPlanner y = new PlotterPlanner();
        y.setPenCost(1);
        y.setSquareLimit(2);
        y.setAcceleration(3);
        y.addStroke(1, 1, 1, 1, 0);
        y.removeStroke(0);
        undos("settings and refused calls alone", y, NONE);
    }

    private static PlotterPlanner undone(Supplier<PlotterPlanner> state, int count) {
        PlotterPlanner planner = state.get();
        for (int undo = 0; undo < count; undo++) {
            planner.undo();
        }
        return planner;
    }

    private static void promise28FindsNoEditBehindTheLastOne() {
        Sample.refused("28: undo() of eight, no edit left",
                () -> undone(Sample::eight, 4), x -> x.undo(), NONE);
        Sample.refused("28: undo() of three, no edit left",
                () -> undone(Sample::three, 3), x -> x.undo(), NONE);
        PlotterPlanner full = undone(Sample::eight, 4);
        Check.plan("28: eight, no edit left", full, 0, 2, 4, 6, 8, 10, 12, 14);
        full.undo();
        full.turnPosition(7);
        undos("eight, one edit behind it", full, 0, NONE);
        Check.plan("28: eight, no edit left again", full, 0, 2, 4, 6, 8, 10, 12, 14);
        Check.plan("28: three, no edit left", undone(Sample::three, 3));
    }

    private static PlotterPlanner turned(int times) {
        PlotterPlanner planner = new PlotterPlanner();
        for (int edit = 0; edit < times; edit++) {
            if (edit == 0) {
                planner.addStroke(1, 2, 3, 4, 0);
            } else {
                planner.turnPosition(0);
            }
        }
        return planner;
    }

    // "Returns the number of edits that can still be undone"
    private static void promise28CountsTheEditsThatAreLeft() {
        undos("one edit", turned(1), 0, NONE, NONE);
        undos("two edits", turned(2), 1, 0, NONE, NONE);
        undos("three edits", turned(3), 2, 1, 0, NONE, NONE);
        undos("four edits", turned(4), 3, 2, 1, 0, NONE, NONE);
        for (int edits = 5; edits <= 20; edits++) {
            undos(edits + " edits", turned(edits), 3, 2, 1, 0, NONE, NONE);
        }
        undos("256 edits", turned(256), 3, 2, 1, 0, NONE);
        undos("257 edits", turned(257), 3, 2, 1, 0, NONE);
    }

    /** The row, and its first strokes turned by an edit each. */
    private static PlotterPlanner rowTurned(int times) {
        PlotterPlanner planner = Sample.row(0);
        for (int position = 0; position < times; position++) {
            planner.turnPosition(position);
        }
        return planner;
    }

    // "The last 4 edits can be undone"
    private static void promise28UndoesTheLast4Edits() {
        PlotterPlanner x = rowTurned(8);
        Check.plan("28: eight edits", x, 1, 3, 5, 7, 9, 11, 13, 15);
        Check.due("28: the last one: undo()", x.undo(), 3);
        Check.plan("28: the last one", x, 1, 3, 5, 7, 9, 11, 13, 14);
        Check.due("28: the last 2: undo()", x.undo(), 2);
        Check.plan("28: the last 2", x, 1, 3, 5, 7, 9, 11, 12, 14);
        Check.due("28: the last 3: undo()", x.undo(), 1);
        Check.plan("28: the last 3", x, 1, 3, 5, 7, 9, 10, 12, 14);
        Check.due("28: the last 4: undo()", x.undo(), 0);
        Check.plan("28: the last 4", x, 1, 3, 5, 7, 8, 10, 12, 14);
    }

    private static void promise28LeavesAnEditBeforeTheLast4() {
        PlotterPlanner x = undone(() -> rowTurned(8), 4);
        Check.due("28: the fifth from the end: undo()", x.undo(), NONE);
        Check.plan("28: the fifth from the end", x, 1, 3, 5, 7, 8, 10, 12, 14);
        PlotterPlanner y = undone(() -> rowTurned(5), 4);
        Check.plan("28: four of five edits undone", y, 1, 2, 4, 6, 8, 10, 12, 14);
        Check.due("28: the first of five: undo()", y.undo(), NONE);
        Check.plan("28: the first of five", y, 1, 2, 4, 6, 8, 10, 12, 14);
        PlotterPlanner z = undone(() -> rowTurned(4), 4);
        Check.plan("28: all of four edits undone", z, 0, 2, 4, 6, 8, 10, 12, 14);
        Check.due("28: the edit before the four: undo()", z.undo(), NONE);
        Check.due("28: the edit before the four: strokeCount()", z.strokeCount(), 8);
    }

    // "the latest edit that has not been undone"
    private static void promise28UndoesTheLatestThatIsNotUndone() {
        PlotterPlanner x = rowTurned(6);
        undos("six edits", x, 3, 2);
        x.turnPosition(7);
        Check.plan("28: a new edit", x, 1, 3, 5, 7, 8, 10, 12, 15);
        Check.due("28: the new edit: undo()", x.undo(), 2);
        Check.plan("28: the new edit", x, 1, 3, 5, 7, 8, 10, 12, 14);
        Check.due("28: the fourth edit: undo()", x.undo(), 1);
        Check.plan("28: the fourth edit", x, 1, 3, 5, 6, 8, 10, 12, 14);
        Check.due("28: the third edit: undo()", x.undo(), 0);
        Check.plan("28: the third edit", x, 1, 3, 4, 6, 8, 10, 12, 14);
        Check.due("28: the second edit: undo()", x.undo(), NONE);
        Check.plan("28: the second edit", x, 1, 3, 4, 6, 8, 10, 12, 14);
        PlotterPlanner y = undone(() -> rowTurned(6), 4);
        for (int edit = 0; edit < 5; edit++) {
            y.turnPosition(7);
        }
        undos("five edits behind four undos", y, 3, 2, 1, 0, NONE);
        Check.plan("28: five edits behind four undos", y, 1, 3, 4, 6, 8, 10, 12, 15);
    }

    /** All orders of ten edits and undos, behind the eight edits that draw a row. */
    private static void promise28FollowsEachOrderOfEditsAndUndos() {
        for (int order = 0; order < 1 << 10; order++) {
            PlotterPlanner x = new PlotterPlanner();
            List<String> plans = new ArrayList<>();
            for (int stroke = 0; stroke < 8; stroke++) {
                edit(x, plans, stroke);
            }
            for (int step = 0; step < 10; step++) {
                if ((order >> step & 1) == 1) {
                    edit(x, plans, step);
                } else {
                    undo("28: order " + order + ", step " + step, x, plans);
                }
            }
        }
    }

    /** Adds a stroke while there is room for one, and turns one of the eight behind that. */
    private static void edit(PlotterPlanner x, List<String> plans, int step) {
        plans.add(Sample.planOf(x));
        if (plans.size() > 4) {
            plans.remove(0);
        }
        if (x.strokeCount() < 8) {
            x.addStroke(10 * step, 5, 10 * step + 9, 5, 1);
        } else {
            x.turnPosition(step % 8);
        }
    }

    private static void undo(String name, PlotterPlanner x, List<String> plans) {
        if (plans.isEmpty()) {
            String before = Sample.planOf(x);
            Check.due(name + ": undo()", x.undo(), NONE);
            Sample.same(name, Sample.planOf(x), before);
        } else {
            Check.due(name + ": undo()", x.undo(), plans.size() - 1);
            Sample.same(name, Sample.planOf(x), plans.remove(plans.size() - 1));
        }
    }

    // "they restore the strokes and the plan": from no stroke to one, from 8 to 7, and back
    private static void promise28UndoesTheFirstAndTheEighthStroke() {
        Sample.undoneEdit("28: the first stroke", Sample::none,
                x -> x.addStroke(9, 9, 1, 1, 3), 0);
        Supplier<PlotterPlanner> one = () -> Sample.drawn(9, 9, 1, 1, 3);
        Sample.undoneEdit("28: without the only stroke", one, x -> x.removeStroke(0), 0);
        Supplier<PlotterPlanner> seven = () -> {
            PlotterPlanner planner = Sample.eight();
            planner.removeStroke(2);
            return planner;
        };
        Sample.undoneEdit("28: the eighth stroke", seven, x -> x.addStroke(9, 9, 1, 1, 3), 7);
        PlotterPlanner x = Sample.row(0);
        Check.due("28: a ninth stroke", x.addStroke(9, 9, 1, 1, 3), FULL);
        undos("the eighth stroke", x, 3);
        Check.due("28: strokeCount()", x.strokeCount(), 7);
        Check.due("28: the eighth stroke again", x.addStroke(9, 9, 1, 1, 3), 7);
        Check.due("28: penOf(7)", x.penOf(7), 3);
    }

    private static List<Call> edits() {
        return List.of(new Call("3: removeStroke(0)", x -> x.removeStroke(0), 7),
                new Call("3: removeStroke(7)", x -> x.removeStroke(7), 7),
                new Call("12: movePosition(0, 7)", x -> x.movePosition(0, 7), 7),
                new Call("12: movePosition(7, 0)", x -> x.movePosition(7, 0), 6),
                new Call("13: turnPosition(0)", x -> x.turnPosition(0), 0),
                new Call("13: turnPosition(7)", x -> x.turnPosition(7), 0),
                new Call("21: adoptBest()", x -> x.adoptBest(), 188),
                new Call("22: adoptNearest()", x -> x.adoptNearest(), 188),
                new Call("8: removeDuplicates()", x -> x.removeDuplicates(), 2));
    }

    // "addStroke, removeStroke, movePosition, turnPosition, adoptBest, .. are edits."
    private static void promise28UndoesEachEdit() {
        for (Call edit : edits()) {
            Sample.undoneEdit("28: " + edit.name(), Sample::eight, edit.calling(), edit.answer());
        }
        Sample.undoneEdit("28: addStroke", Sample::three, x -> x.addStroke(9, 9, 1, 1, 3), 3);
        Sample.undoneEdit("28: removeDuplicates() of all but one", () -> {
            PlotterPlanner planner = new PlotterPlanner();
            for (int stroke = 0; stroke < 8; stroke++) {
                planner.addStroke(9, 9, 1, 1, 3);
            }
            return planner;
        }, x -> x.removeDuplicates(), 7);
        // four edits of different kinds, and each state before them
        for (Call first : edits()) {
            PlotterPlanner x = Sample.eight();
            List<String> before = new ArrayList<>();
            for (ToIntFunction<PlotterPlanner> edit : List.<ToIntFunction<PlotterPlanner>>of(
                    first.calling(), y -> y.removeStroke(3), y -> y.addStroke(5, 6, 7, 8, 2),
                    y -> y.adoptBest())) {
                before.add(Sample.planOf(x));
                edit.applyAsInt(x);
            }
            for (int left = 3; left >= 0; left--) {
                Check.due("28: behind " + first.name() + ": undo()", x.undo(), left);
                Sample.same("28: behind " + first.name(), Sample.planOf(x), before.get(left));
            }
        }
    }

    private static void promise28RestoresTheStrokesAsTheyWere() {
        for (int stroke = 0; stroke < 8; stroke++) {
            PlotterPlanner x = Sample.eight();
            String before = Sample.answers(x);
            x.removeStroke(stroke);
            // other strokes take the numbers and the places of those that went
            x.addStroke(0, 99, 99, 0, 2);
            x.removeStroke(0);
            x.addStroke(99, 0, 98, 0, 2);
            undos("removeStroke(" + stroke + ") and three more", x, 3, 2, 1, 0);
            Sample.same("28: removeStroke(" + stroke + ")", Sample.answers(x), before);
        }
    }

    // "they restore the strokes and the plan": nothing else
    private static void promise28LeavesTheSettings() {
        PlotterPlanner x = new PlotterPlanner();
        x.addStroke(0, 0, 50, 0, 0);
        x.setPenCost(500);
        x.turnPosition(0);
        x.setSquareLimit(9999);
        x.turnPosition(0);
        x.setAcceleration(99);
        undos("settings between edits", x, 2, 1);
        Check.due("28: cost() for 500", x.cost(), 500);
        Check.due("28: bestCost() for 500", x.bestCost(), 500);
        Check.due("28: peakSquare(0) for 9999 and 99", x.peakSquare(0), 99 * 50);
        undos("settings between edits", x, 0, NONE);
        Check.due("28: setPenCost(50)", x.setPenCost(50), 500);
        Check.due("28: setSquareLimit(400)", x.setSquareLimit(400), 9999);
        Check.due("28: setAcceleration(10)", x.setAcceleration(10), 99);
    }

    private static void promise28IsItselfNoEdit() {
        PlotterPlanner x = turned(3);
        undos("no edit of its own", x, 2, 1, 0, NONE);
        Check.due("28: no undo() of an undo(): strokeCount()", x.strokeCount(), 0);
    }

    // "An edit that changes nothing is an edit, too."
    private static void editsThatChangeNothingAreEdits() {
        for (Call edit : idleEdits()) {
            Sample.idleEdit(edit.name() + " of a row", () -> Sample.row(2),
                    edit.calling(), edit.answer());
            Sample.idleEdit(edit.name() + " behind an undo()",
                    () -> undone(() -> rowTurned(1), 1), edit.calling(), edit.answer());
            Sample.idleEdit(edit.name() + ", no edit left",
                    () -> undone(() -> rowTurned(4), 4), edit.calling(), edit.answer());
        }
    }

    private static List<Call> idleEdits() {
        return List.of(new Call("12: movePosition(0, 0)", x -> x.movePosition(0, 0), 0),
                new Call("12: movePosition(7, 7)", x -> x.movePosition(7, 7), 7),
                new Call("21: adoptBest()", x -> x.adoptBest(), 55),
                new Call("22: adoptNearest()", x -> x.adoptNearest(), 55),
                new Call("8: removeDuplicates()", x -> x.removeDuplicates(), 0));
    }

    private static void editsThatChangeNothingPushOutTheOthers() {
        for (Call edit : idleEdits()) {
            PlotterPlanner x = Sample.row(2);
            x.movePosition(0, 7);
            x.movePosition(7, 0);
            x.removeStroke(7);
            x.addStroke(70, 5, 80, 5, 2);
            for (int idle = 0; idle < 3; idle++) {
                Check.due(edit.name(), edit.calling().applyAsInt(x), edit.answer());
            }
            undos("three times " + edit.name(), x, 3, 2, 1);
            Check.due("edits: strokeCount() behind " + edit.name(), x.strokeCount(), 8);
            undos("addStroke before " + edit.name(), x, 0);
            Check.due("edits: strokeCount() without it", x.strokeCount(), 7);
            undos("removeStroke before " + edit.name(), x, NONE);
            Check.due("edits: strokeCount(), no edit left", x.strokeCount(), 7);
        }
        PlotterPlanner y = Sample.row(2);
        y.turnPosition(0);
        y.turnPosition(0);
        y.turnPosition(7);
        for (Call edit : idleEdits().subList(0, 2)) {
            edit.calling().applyAsInt(y);
            edit.calling().applyAsInt(y);
        }
        undos("four edits that change nothing", y, 3, 2, 1, 0, NONE);
        Check.plan("edits: the one before them stays", y, 0, 2, 4, 6, 8, 10, 12, 15);
    }

    private static List<ToIntFunction<PlotterPlanner>> questionsAndSettings() {
        return List.of(x -> x.strokeCount(), x -> x.penOf(0), x -> x.alikeTo(0),
                x -> x.coveredBy(2), x -> x.leastRuns(0), x -> x.strokeAt(0),
                x -> x.directionAt(0), x -> x.cost(), x -> x.penChanges(), x -> x.runCount(),
                x -> x.runLength(0), x -> x.bestCost(), x -> x.bestAt(0), x -> x.cornerLimit(0),
                x -> x.endSquare(0), x -> x.peakSquare(0), x -> x.setPenCost(77),
                x -> x.setSquareLimit(777), x -> x.setAcceleration(7));
    }

    // the list of the edits names none of them
    private static void questionsAndSettingsAreNoEdits() {
        for (Supplier<PlotterPlanner> state : Sample.STATES) {
            Sample.isNoEdit("edits: all questions and settings", state, x -> {
                for (ToIntFunction<PlotterPlanner> call : questionsAndSettings()) {
                    call.applyAsInt(x);
                }
                return 0;
            });
        }
    }

    private static List<Call> refusedByAll() {
        return List.of(new Call("2: addStroke", x -> x.addStroke(0, 0, 0, 100, 0), WRONG),
                new Call("2: addStroke", x -> x.addStroke(7, 7, 7, 7, 0), WRONG),
                new Call("3: removeStroke", x -> x.removeStroke(8), WRONG),
                new Call("5: penOf", x -> x.penOf(8), WRONG),
                new Call("6: alikeTo", x -> x.alikeTo(8), WRONG),
                new Call("7: coveredBy", x -> x.coveredBy(8), WRONG),
                new Call("9: leastRuns", x -> x.leastRuns(4), WRONG),
                new Call("10: strokeAt", x -> x.strokeAt(8), NONE),
                new Call("11: directionAt", x -> x.directionAt(8), NONE),
                new Call("12: movePosition", x -> x.movePosition(0, 8), WRONG),
                new Call("12: movePosition", x -> x.movePosition(8, 0), WRONG),
                new Call("13: turnPosition", x -> x.turnPosition(8), WRONG),
                new Call("17: runLength", x -> x.runLength(8), NONE),
                new Call("18: setPenCost", x -> x.setPenCost(501), WRONG),
                new Call("20: bestAt", x -> x.bestAt(8), NONE),
                new Call("23: setSquareLimit", x -> x.setSquareLimit(0), WRONG),
                new Call("24: setAcceleration", x -> x.setAcceleration(0), WRONG),
                new Call("25: cornerLimit", x -> x.cornerLimit(8), WRONG),
                new Call("26: endSquare", x -> x.endSquare(8), WRONG),
                new Call("27: peakSquare", x -> x.peakSquare(8), WRONG));
    }

    // "A call that returns an error changes nothing and is no edit."
    private static void refusedCallsAreNoEdits() {
        for (Supplier<PlotterPlanner> state : Sample.STATES) {
            for (Call call : refusedByAll()) {
                Sample.refused(call.name(), state, call.calling(), call.answer());
            }
            Sample.refused("errors: all of them, one behind another", state, x -> {
                for (Call call : refusedByAll()) {
                    Check.due(call.name(), call.calling().applyAsInt(x),
                            call.answer());
                }
                return WRONG;
            }, WRONG);
        }
        Sample.refused("2: addStroke into a full one, five times", Sample::eight, x -> {
            for (int stroke = 0; stroke < 4; stroke++) {
                x.addStroke(1, 2, 3, 4, 0);
            }
            return x.addStroke(1, 2, 3, 4, 0);
        }, FULL);
        // between two undos as well
        PlotterPlanner x = rowTurned(4);
        undos("before refused calls", x, 3, 2);
        for (Call call : refusedByAll()) {
            call.calling().applyAsInt(x);
        }
        x.addStroke(1, 2, 3, 4, 0);
        undos("behind refused calls", x, 1, 0, NONE);
        Check.plan("errors: behind refused calls", x, 0, 2, 4, 6, 8, 10, 12, 14);
    }

    // "INVALID_ARGUMENT is returned rather than LIMIT_REACHED, and LIMIT_REACHED rather than
    // NOT_FOUND"; no call of the face can have the latter two at once
    private static void theLowestErrorIsReturned() {
        List<Call> both = List.of(
                new Call("2: addStroke, full", x -> x.addStroke(1, 1, 1, 1, 0), WRONG),
                new Call("2: addStroke, full", x -> x.addStroke(1, 1, 2, 2, 4), WRONG),
                new Call("2: addStroke, full", x -> x.addStroke(100, 1, 2, 2, 0), WRONG),
                new Call("2: addStroke, full", x -> x.addStroke(1, -1, 2, 2, 0), WRONG),
                new Call("2: addStroke, full", x -> x.addStroke(1, 1, 100, 2, 0), WRONG),
                new Call("2: addStroke, full", x -> x.addStroke(1, 1, 2, -1, 0), WRONG),
                new Call("2: addStroke, full", x -> x.addStroke(-1, 100, -1, 100, -1), WRONG));
        for (Call call : both) {
            Sample.refused(call.name(), Sample::eight, call.calling(), call.answer());
        }
        for (Supplier<PlotterPlanner> state : Sample.STATES) {
            Sample.refused("10: strokeAt(-1)", state, x -> x.strokeAt(-1), WRONG);
            Sample.refused("11: directionAt(-1)", state, x -> x.directionAt(-1), WRONG);
            Sample.refused("17: runLength(-1)", state, x -> x.runLength(-1), WRONG);
            Sample.refused("20: bestAt(-1)", state, x -> x.bestAt(-1), WRONG);
            Sample.refused("6: alikeTo(-1)", state, x -> x.alikeTo(-1), WRONG);
            Sample.refused("7: coveredBy(-1)", state, x -> x.coveredBy(-1), WRONG);
            Sample.refused("25: cornerLimit(-1)", state, x -> x.cornerLimit(-1), WRONG);
            Sample.refused("25: cornerLimit(8)", state, x -> x.cornerLimit(8), WRONG);
            Sample.refused("12: movePosition(8, -1)", state, x -> x.movePosition(8, -1), WRONG);
        }
    }

    // "An object is used for at most 512 calls": the last of them is as due as the first
    private static void objectsLastFor512Calls() {
        PlotterPlanner turns = new PlotterPlanner();
        turns.addStroke(1, 2, 3, 4, 0);
        for (int call = 2; call <= MOST_CALLS - 5; call++) {
            Check.due("512: turnPosition(0), call " + call, turns.turnPosition(0), 1 - call % 2);
        }
        undos("calls 508 to 512", turns, 3, 2, 1, 0, NONE);
        PlotterPlanner refused = new PlotterPlanner();
        PlotterPlanner idle = new PlotterPlanner();
        PlotterPlanner settings = new PlotterPlanner();
        for (int call = 1; call < MOST_CALLS; call++) {
            Check.due("512: undo(), call " + call, refused.undo(), NONE);
            Check.due("512: removeDuplicates(), call " + call, idle.removeDuplicates(), 0);
            settings.setPenCost(call % 501);
        }
        Check.due("512: addStroke", refused.addStroke(1, 2, 3, 4, 0), 0);
        Check.due("512: undo()", idle.undo(), 3);
        Check.due("512: setPenCost(0)", settings.setPenCost(0), (MOST_CALLS - 1) % 501);
        PlotterPlanner full = Sample.row(0);
        for (int call = 9; call < MOST_CALLS; call += 3) {
            Check.due("512: removeStroke(7), call " + call, full.removeStroke(7), 7);
            Check.due("512: addStroke, call " + (call + 1), full.addStroke(70, 5, 80, 5, 0), 7);
            Check.due("512: adoptBest(), call " + (call + 2), full.adoptBest(), 55);
        }
    }
}
