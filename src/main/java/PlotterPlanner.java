/**
 * A planner for a pen plotter: strokes with pens, the order and the directions in which they are
 * drawn, travel and pen changes, the cheapest order, duplicates and covered strokes, the least
 * number of pen-down runs, and speeds through corners.
 *
 * <p>Throughout the file a code stands for a stroke with a direction: 2 times the number of the
 * stroke, plus 1 if the direction is backward.
 */
public final class PlotterPlanner {
    /** An argument is out of its range. */
    public static final int INVALID_ARGUMENT = -1;
    /** A fixed limit has been reached. */
    public static final int LIMIT_REACHED = -2;
    /** There is no such element. */
    public static final int NOT_FOUND = -3;

    private static final int MOST_STROKES = 8;
    private static final int MOST_CODES = 2 * MOST_STROKES;
    private static final int MOST_SETS = 1 << MOST_STROKES;
    private static final int MOST_UNDOS = 4;
    private static final int HIGHEST_COORDINATE = 99;
    private static final int HIGHEST_PEN = 3;
    private static final int HIGHEST_PEN_COST = 500;
    private static final int HIGHEST_SQUARE_LIMIT = 9999;
    private static final int HIGHEST_ACCELERATION = 99;
    /** The code of the plotter before its first stroke: at (0, 0) with no pen. */
    private static final int START = -1;
    private static final int NO_PEN = -1;
    private static final int NO_CODE = -1;

    private final Drawing drawing;
    private final History history;
    private final BestPlan best;
    private final RunGraph graph;
    private final Speeds speeds;
    private int penCost;
    private int squareLimit;
    private int acceleration;

    /** Creates a planner without strokes. */
    public PlotterPlanner() {
        drawing = new Drawing();
        history = new History();
        best = new BestPlan();
        graph = new RunGraph();
        speeds = new Speeds();
        penCost = 50;
        squareLimit = 400;
        acceleration = 10;
    }

    /** Adds a stroke at the end of the plan, forward; returns its number. */
    public int addStroke(int x1, int y1, int x2, int y2, int pen) {
        if (!isPoint(x1, y1) || !isPoint(x2, y2) || !isPen(pen) || (x1 == x2 && y1 == y2)) {
            return INVALID_ARGUMENT;
        }
        if (drawing.size() >= MOST_STROKES) {
            return LIMIT_REACHED;
        }
        beginEdit();
        return drawing.append(x1, y1, x2, y2, pen);
    }

    /** Removes a stroke; returns the number of strokes that remain. */
    public int removeStroke(int stroke) {
        if (!drawing.hasStroke(stroke)) {
            return INVALID_ARGUMENT;
        }
        beginEdit();
        drawing.drop(stroke);
        return drawing.size();
    }

    /** Returns the number of strokes. */
    public int strokeCount() {
        return drawing.size();
    }

    /** Returns the pen of a stroke. */
    public int penOf(int stroke) {
        return drawing.hasStroke(stroke) ? drawing.penOfStroke(stroke) : INVALID_ARGUMENT;
    }

    /** Returns the lowest other stroke that is alike. */
    public int alikeTo(int stroke) {
        return drawing.hasStroke(stroke) ? drawing.lowestAlike(stroke) : INVALID_ARGUMENT;
    }

    /** Returns the lowest stroke that covers a stroke. */
    public int coveredBy(int stroke) {
        return drawing.hasStroke(stroke) ? drawing.lowestCover(stroke) : INVALID_ARGUMENT;
    }

    /** Removes each stroke that is alike to a lower one; returns how many were removed. */
    public int removeDuplicates() {
        beginEdit();
        return drawing.dropDuplicates();
    }

    /** Returns the least number of runs of a pen. */
    public int leastRuns(int pen) {
        return isPen(pen) ? graph.fewestRuns(drawing, pen) : INVALID_ARGUMENT;
    }

    /** Returns the stroke at a position of the plan. */
    public int strokeAt(int position) {
        int code = codeOrError(position);
        return code < 0 ? code : code / 2;
    }

    /** Returns the direction at a position of the plan, 0 for forward and 1 for backward. */
    public int directionAt(int position) {
        int code = codeOrError(position);
        return code < 0 ? code : code % 2;
    }

    /** Moves a stroke with its direction to another position; returns the stroke. */
    public int movePosition(int from, int to) {
        if (!drawing.hasPosition(from) || !drawing.hasPosition(to)) {
            return INVALID_ARGUMENT;
        }
        beginEdit();
        drawing.move(from, to);
        return drawing.codeAt(to) / 2;
    }

    /** Changes the direction at a position; returns the new direction. */
    public int turnPosition(int position) {
        if (!drawing.hasPosition(position)) {
            return INVALID_ARGUMENT;
        }
        beginEdit();
        drawing.turn(position);
        return drawing.codeAt(position) % 2;
    }

    /** Returns the cost of the plan. */
    public int cost() {
        return drawing.planCost(penCost);
    }

    /** Returns the number of positions that cause the pen cost. */
    public int penChanges() {
        return drawing.countPenChanges();
    }

    /** Returns the number of runs of the plan. */
    public int runCount() {
        return drawing.countRuns();
    }

    /** Returns the number of positions of a run. */
    public int runLength(int run) {
        if (run < 0) {
            return INVALID_ARGUMENT;
        }
        int length = drawing.lengthOfRun(run);
        return length == 0 ? NOT_FOUND : length;
    }

    /** Sets the pen cost; returns the previous one. */
    public int setPenCost(int cost) {
        if (!isWithin(cost, 0, HIGHEST_PEN_COST)) {
            return INVALID_ARGUMENT;
        }
        int previous = penCost;
        penCost = cost;
        best.forget();
        return previous;
    }

    /** Returns the cost of the best plan. */
    public int bestCost() {
        best.find(drawing, penCost);
        return best.total();
    }

    /** Returns 2 times the stroke at a position of the best plan, plus 1 if it is backward. */
    public int bestAt(int position) {
        if (position < 0) {
            return INVALID_ARGUMENT;
        }
        if (!drawing.hasPosition(position)) {
            return NOT_FOUND;
        }
        best.find(drawing, penCost);
        return best.codeAt(position);
    }

    /** Makes the best plan the plan; returns its cost. */
    public int adoptBest() {
        beginEdit();
        best.find(drawing, penCost);
        for (int position = 0; position < drawing.size(); position++) {
            drawing.setCode(position, best.codeAt(position));
        }
        return drawing.planCost(penCost);
    }

    /** Makes the nearest plan the plan; returns its cost. */
    public int adoptNearest() {
        beginEdit();
        drawing.orderByNearest(penCost);
        return drawing.planCost(penCost);
    }

    /** Sets the square limit; returns the previous one. */
    public int setSquareLimit(int limit) {
        if (!isWithin(limit, 1, HIGHEST_SQUARE_LIMIT)) {
            return INVALID_ARGUMENT;
        }
        int previous = squareLimit;
        squareLimit = limit;
        return previous;
    }

    /** Sets the acceleration; returns the previous one. */
    public int setAcceleration(int acceleration) {
        if (!isWithin(acceleration, 1, HIGHEST_ACCELERATION)) {
            return INVALID_ARGUMENT;
        }
        int previous = this.acceleration;
        this.acceleration = acceleration;
        return previous;
    }

    /** Returns the corner limit between a position and the next one of its run. */
    public int cornerLimit(int position) {
        if (!drawing.hasPosition(position)) {
            return INVALID_ARGUMENT;
        }
        return drawing.isLinkedToNext(position)
                ? drawing.cornerSquare(position, squareLimit)
                : NOT_FOUND;
    }

    /** Returns the square of the speed at the end of the stroke at a position. */
    public int endSquare(int position) {
        if (!drawing.hasPosition(position)) {
            return INVALID_ARGUMENT;
        }
        speeds.compute(drawing, squareLimit, acceleration);
        return speeds.endAt(position);
    }

    /** Returns the greatest square of the speed that the stroke at a position reaches. */
    public int peakSquare(int position) {
        if (!drawing.hasPosition(position)) {
            return INVALID_ARGUMENT;
        }
        speeds.compute(drawing, squareLimit, acceleration);
        int reachable = speeds.beginAt(position) + speeds.endAt(position)
                + 2 * acceleration * drawing.lengthAt(position);
        return Math.min(squareLimit, reachable / 2);
    }

    /** Undoes the latest edit; returns the number of edits that can still be undone. */
    public int undo() {
        if (history.isEmpty()) {
            return NOT_FOUND;
        }
        history.restore(drawing);
        best.forget();
        return history.depth();
    }

    /** Every edit passes here before its first change. */
    private void beginEdit() {
        history.keep(drawing);
        best.forget();
    }

    private int codeOrError(int position) {
        if (position < 0) {
            return INVALID_ARGUMENT;
        }
        return drawing.hasPosition(position) ? drawing.codeAt(position) : NOT_FOUND;
    }

    private static boolean isPoint(int x, int y) {
        return isWithin(x, 0, HIGHEST_COORDINATE) && isWithin(y, 0, HIGHEST_COORDINATE);
    }

    private static boolean isPen(int pen) {
        return isWithin(pen, 0, HIGHEST_PEN);
    }

    private static boolean isWithin(int value, int lowest, int highest) {
        return value >= lowest && value <= highest;
    }

    /** The strokes and the plan. */
    private static final class Drawing {
        private int size;
        private final int[] pens = new int[MOST_STROKES];
        // The point where the stroke of a code begins in the direction of the code.
        private final int[] beginX = new int[MOST_CODES];
        private final int[] beginY = new int[MOST_CODES];
        // The codes of the plan, by position.
        private final int[] plan = new int[MOST_STROKES];

        int size() {
            return size;
        }

        boolean hasStroke(int stroke) {
            return stroke >= 0 && stroke < size;
        }

        boolean hasPosition(int position) {
            return position >= 0 && position < size;
        }

        int penOfStroke(int stroke) {
            return hasStroke(stroke) ? pens[stroke] : NO_PEN;
        }

        int codeAt(int position) {
            return hasPosition(position) ? plan[position] : NO_CODE;
        }

        void setCode(int position, int code) {
            if (hasPosition(position) && hasCode(code)) {
                plan[position] = code;
            }
        }

        void copyFrom(Drawing other) {
            size = other.size;
            System.arraycopy(other.pens, 0, pens, 0, MOST_STROKES);
            System.arraycopy(other.beginX, 0, beginX, 0, MOST_CODES);
            System.arraycopy(other.beginY, 0, beginY, 0, MOST_CODES);
            System.arraycopy(other.plan, 0, plan, 0, MOST_STROKES);
        }

        int append(int x1, int y1, int x2, int y2, int pen) {
            if (size < 0 || size >= MOST_STROKES) {
                return LIMIT_REACHED;
            }
            int stroke = size;
            pens[stroke] = pen;
            beginX[2 * stroke] = x1;
            beginY[2 * stroke] = y1;
            beginX[2 * stroke + 1] = x2;
            beginY[2 * stroke + 1] = y2;
            plan[stroke] = 2 * stroke;
            size++;
            return stroke;
        }

        void drop(int stroke) {
            if (!hasStroke(stroke)) {
                return;
            }
            dropFromPlan(stroke);
            for (int next = stroke + 1; next < size; next++) {
                pens[next - 1] = pens[next];
            }
            for (int code = 2 * stroke + 2; code < 2 * size; code++) {
                beginX[code - 2] = beginX[code];
                beginY[code - 2] = beginY[code];
            }
            size--;
        }

        private void dropFromPlan(int stroke) {
            int kept = 0;
            for (int position = 0; position < size; position++) {
                int code = plan[position];
                if (code / 2 != stroke) {
                    plan[kept] = code / 2 > stroke ? code - 2 : code;
                    kept++;
                }
            }
        }

        // From the highest stroke downwards, so that the numbers still to be looked at stay.
        int dropDuplicates() {
            int dropped = 0;
            for (int stroke = size - 1; stroke > 0; stroke--) {
                int alike = lowestAlike(stroke);
                if (alike >= 0 && alike < stroke) {
                    drop(stroke);
                    dropped++;
                }
            }
            return dropped;
        }

        void move(int from, int to) {
            if (!hasPosition(from) || !hasPosition(to)) {
                return;
            }
            int code = plan[from];
            for (int position = from; position < to; position++) {
                plan[position] = plan[position + 1];
            }
            for (int position = from; position > to; position--) {
                plan[position] = plan[position - 1];
            }
            plan[to] = code;
        }

        void turn(int position) {
            if (hasPosition(position)) {
                plan[position] = plan[position] ^ 1;
            }
        }

        void orderByNearest(int penCost) {
            int remaining = (1 << size) - 1;
            int last = START;
            for (int position = 0; position < size; position++) {
                last = nearestCode(remaining, last, penCost);
                setCode(position, last);
                remaining &= ~(1 << (last / 2));
            }
        }

        private int nearestCode(int remaining, int last, int penCost) {
            int nearest = NO_CODE;
            int least = 0;
            for (int code = 0; code < 2 * size; code++) {
                if ((remaining >> (code / 2) & 1) == 1) {
                    int step = stepCost(last, code, penCost);
                    if (nearest == NO_CODE || step < least) {
                        nearest = code;
                        least = step;
                    }
                }
            }
            return nearest;
        }

        /** The travel and the pen cost of drawing a code directly behind another one. */
        int stepCost(int last, int next, int penCost) {
            int travel = wayLength(endXOf(last), endYOf(last), beginXOf(next), beginYOf(next));
            return travel + (changesPen(last, next) ? penCost : 0);
        }

        int planCost(int penCost) {
            int sum = 0;
            int last = START;
            for (int position = 0; position < size; position++) {
                sum += stepCost(last, plan[position], penCost);
                last = plan[position];
            }
            return sum;
        }

        int countPenChanges() {
            int changes = 0;
            int last = START;
            for (int position = 0; position < size; position++) {
                if (changesPen(last, plan[position])) {
                    changes++;
                }
                last = plan[position];
            }
            return changes;
        }

        private boolean changesPen(int last, int next) {
            return penOfCode(last) != penOfCode(next);
        }

        boolean isLinkedToNext(int position) {
            if (!hasPosition(position) || !hasPosition(position + 1)) {
                return false;
            }
            int code = plan[position];
            int next = plan[position + 1];
            return !changesPen(code, next)
                    && endXOf(code) == beginXOf(next) && endYOf(code) == beginYOf(next);
        }

        int countRuns() {
            int runs = 0;
            for (int position = 0; position < size; position++) {
                if (!isLinkedToNext(position)) {
                    runs++;
                }
            }
            return runs;
        }

        /** The number of positions of a run, 0 if there is no such run. */
        int lengthOfRun(int run) {
            int current = 0;
            int length = 0;
            for (int position = 0; position < size; position++) {
                if (current == run) {
                    length++;
                }
                if (!isLinkedToNext(position)) {
                    current++;
                }
            }
            return length;
        }

        int lowestAlike(int stroke) {
            for (int other = 0; other < size; other++) {
                if (other != stroke && areAlike(stroke, other)) {
                    return other;
                }
            }
            return NOT_FOUND;
        }

        int lowestCover(int stroke) {
            for (int other = 0; other < size; other++) {
                if (covers(other, stroke)) {
                    return other;
                }
            }
            return NOT_FOUND;
        }

        private boolean areAlike(int stroke, int other) {
            if (penOfStroke(stroke) != penOfStroke(other)) {
                return false;
            }
            int first = 2 * stroke;
            int last = first + 1;
            return (samePoint(first, 2 * other) && samePoint(last, 2 * other + 1))
                    || (samePoint(first, 2 * other + 1) && samePoint(last, 2 * other));
        }

        // A stroke is straight: all of it lies on the other one if both of its end points do.
        private boolean covers(int other, int stroke) {
            return penOfStroke(other) == penOfStroke(stroke) && !areAlike(other, stroke)
                    && liesOn(2 * stroke, other) && liesOn(2 * stroke + 1, other);
        }

        private boolean liesOn(int code, int stroke) {
            int x = beginXOf(code);
            int y = beginYOf(code);
            int x1 = beginXOf(2 * stroke);
            int y1 = beginYOf(2 * stroke);
            int x2 = endXOf(2 * stroke);
            int y2 = endYOf(2 * stroke);
            return (x2 - x1) * (y - y1) == (y2 - y1) * (x - x1)
                    && isWithin(x, Math.min(x1, x2), Math.max(x1, x2))
                    && isWithin(y, Math.min(y1, y2), Math.max(y1, y2));
        }

        /** Tells whether two codes begin at the same point. */
        boolean samePoint(int code, int other) {
            return beginXOf(code) == beginXOf(other) && beginYOf(code) == beginYOf(other);
        }

        int lengthAt(int position) {
            int code = codeAt(position);
            return wayLength(beginXOf(code), beginYOf(code), endXOf(code), endYOf(code));
        }

        /** The corner limit between a position and the next one, where both are linked. */
        int cornerSquare(int position, int squareLimit) {
            int code = codeAt(position);
            int next = codeAt(position + 1);
            int dx = endXOf(code) - beginXOf(code);
            int dy = endYOf(code) - beginYOf(code);
            int nextDx = endXOf(next) - beginXOf(next);
            int nextDy = endYOf(next) - beginYOf(next);
            if (dx * nextDx + dy * nextDy <= 0) {
                return 0;
            }
            return dx * nextDy == dy * nextDx ? squareLimit : squareLimit / 4;
        }

        private static int wayLength(int x1, int y1, int x2, int y2) {
            return Math.max(Math.abs(x1 - x2), Math.abs(y1 - y2));
        }

        private boolean hasCode(int code) {
            return code >= 0 && code < 2 * size;
        }

        private int penOfCode(int code) {
            return hasCode(code) ? pens[code / 2] : NO_PEN;
        }

        // Where there is no stroke, as at START, the plotter is at (0, 0).
        private int beginXOf(int code) {
            return hasCode(code) ? beginX[code] : 0;
        }

        private int beginYOf(int code) {
            return hasCode(code) ? beginY[code] : 0;
        }

        // A stroke ends where it would begin in the other direction.
        private int endXOf(int code) {
            return hasCode(code) ? beginX[code ^ 1] : 0;
        }

        private int endYOf(int code) {
            return hasCode(code) ? beginY[code ^ 1] : 0;
        }
    }

    /** The drawings before the latest edits, in a ring that is made once. */
    private static final class History {
        private final Drawing[] ring = new Drawing[MOST_UNDOS];
        private int next;
        private int depth;

        History() {
            for (int slot = 0; slot < MOST_UNDOS; slot++) {
                ring[slot] = new Drawing();
            }
        }

        boolean isEmpty() {
            return depth == 0;
        }

        int depth() {
            return depth;
        }

        void keep(Drawing drawing) {
            Drawing slot = slotAt(next);
            if (slot != null) {
                slot.copyFrom(drawing);
                next = (next + 1) % MOST_UNDOS;
                depth = Math.min(depth + 1, MOST_UNDOS);
            }
        }

        void restore(Drawing drawing) {
            int latest = (next + MOST_UNDOS - 1) % MOST_UNDOS;
            Drawing slot = slotAt(latest);
            if (slot != null && depth > 0) {
                drawing.copyFrom(slot);
                next = latest;
                depth--;
            }
        }

        private Drawing slotAt(int slot) {
            return slot >= 0 && slot < MOST_UNDOS ? ring[slot] : null;
        }
    }

    /**
     * The best plan, kept until the strokes or the pen cost change. A set of strokes is a number
     * whose bit k tells whether stroke k is in it.
     */
    private static final class BestPlan {
        // steps[(last + 1) * MOST_CODES + next]: the cost of next behind last; START is row 0.
        private final int[] steps = new int[(MOST_CODES + 1) * MOST_CODES];
        // rests[remaining * MOST_CODES + last]: the least cost of the remaining strokes.
        private final int[] rests = new int[MOST_SETS * MOST_CODES];
        private final int[] codes = new int[MOST_STROKES];
        private int codeCount;
        private int total;
        private boolean known;

        void forget() {
            known = false;
        }

        int total() {
            return total;
        }

        int codeAt(int position) {
            return isWithin(position, 0, MOST_STROKES - 1) ? codes[position] : NO_CODE;
        }

        void find(Drawing drawing, int penCost) {
            if (known) {
                return;
            }
            int size = Math.min(drawing.size(), MOST_STROKES);
            codeCount = 2 * size;
            fillSteps(drawing, penCost);
            fillRests((1 << size) - 1);
            follow(size);
            known = true;
        }

        private void fillSteps(Drawing drawing, int penCost) {
            for (int last = START; last < codeCount; last++) {
                for (int next = 0; next < codeCount; next++) {
                    steps[(last + 1) * MOST_CODES + next] = drawing.stepCost(last, next, penCost);
                }
            }
        }

        // Upwards, since a set without one of its strokes is a lower number.
        private void fillRests(int all) {
            for (int remaining = 0; remaining < all; remaining++) {
                for (int last = 0; last < codeCount; last++) {
                    if (!contains(remaining, last)) {
                        int next = cheapestNext(remaining, last);
                        int cost = next == NO_CODE ? 0 : costThrough(remaining, last, next);
                        rests[remaining * MOST_CODES + last] = cost;
                    }
                }
            }
        }

        // The plan from its front: of equal costs the lowest code wins at each position in turn.
        private void follow(int size) {
            int remaining = (1 << size) - 1;
            int last = START;
            total = 0;
            for (int position = 0; position < size; position++) {
                int next = cheapestNext(remaining, last);
                total += stepAt(last, next);
                codes[position] = next;
                remaining = without(remaining, next);
                last = next;
            }
        }

        private int cheapestNext(int remaining, int last) {
            int cheapest = NO_CODE;
            int least = 0;
            for (int next = 0; next < codeCount; next++) {
                if (contains(remaining, next)) {
                    int cost = costThrough(remaining, last, next);
                    if (cheapest == NO_CODE || cost < least) {
                        cheapest = next;
                        least = cost;
                    }
                }
            }
            return cheapest;
        }

        private int costThrough(int remaining, int last, int next) {
            return stepAt(last, next) + restAt(without(remaining, next), next);
        }

        private int stepAt(int last, int next) {
            int index = (last + 1) * MOST_CODES + next;
            return index >= 0 && index < steps.length ? steps[index] : 0;
        }

        private int restAt(int remaining, int last) {
            int index = remaining * MOST_CODES + last;
            return index >= 0 && index < rests.length ? rests[index] : 0;
        }

        private static boolean contains(int set, int code) {
            return (set >> (code / 2) & 1) == 1;
        }

        private static int without(int set, int code) {
            return set & ~(1 << (code / 2));
        }
    }

    /**
     * The graph of the strokes of one pen. Its vertices are named by the lowest code that begins
     * there, its components by one of their strokes.
     */
    private static final class RunGraph {
        private final int[] components = new int[MOST_STROKES];

        int fewestRuns(Drawing drawing, int pen) {
            int size = Math.min(drawing.size(), MOST_STROKES);
            joinComponents(drawing, pen, size);
            int runs = 0;
            for (int component = 0; component < size; component++) {
                if (drawing.penOfStroke(component) == pen && components[component] == component) {
                    runs += Math.max(1, countOddVertices(drawing, component, size) / 2);
                }
            }
            return runs;
        }

        private void joinComponents(Drawing drawing, int pen, int size) {
            for (int stroke = 0; stroke < size; stroke++) {
                components[stroke] = stroke;
            }
            for (int stroke = 0; stroke < size; stroke++) {
                for (int other = 0; other < stroke; other++) {
                    if (drawing.penOfStroke(stroke) == pen && drawing.penOfStroke(other) == pen
                            && touch(drawing, stroke, other)) {
                        rename(components[stroke], components[other], size);
                    }
                }
            }
        }

        private static boolean touch(Drawing drawing, int stroke, int other) {
            int code = 2 * stroke;
            int otherCode = 2 * other;
            return drawing.samePoint(code, otherCode) || drawing.samePoint(code, otherCode + 1)
                    || drawing.samePoint(code + 1, otherCode)
                    || drawing.samePoint(code + 1, otherCode + 1);
        }

        private void rename(int oldName, int newName, int size) {
            for (int stroke = 0; stroke < size; stroke++) {
                if (components[stroke] == oldName) {
                    components[stroke] = newName;
                }
            }
        }

        private int countOddVertices(Drawing drawing, int component, int size) {
            int odd = 0;
            for (int code = 0; code < 2 * size; code++) {
                if (components[code / 2] == component && isOddVertex(drawing, code, size)) {
                    odd++;
                }
            }
            return odd;
        }

        // A vertex is counted at its lowest code alone, or it would count once for each edge.
        private boolean isOddVertex(Drawing drawing, int code, int size) {
            int edges = 0;
            for (int other = 0; other < 2 * size; other++) {
                if (components[other / 2] == components[code / 2]
                        && drawing.samePoint(code, other)) {
                    if (other < code) {
                        return false;
                    }
                    edges++;
                }
            }
            return edges % 2 == 1;
        }
    }

    /** The squares of the speeds of the plan. */
    private static final class Speeds {
        // The square at the end of each position; 0 at the end of a run.
        private final int[] ends = new int[MOST_STROKES];

        void compute(Drawing drawing, int squareLimit, int acceleration) {
            int size = Math.min(drawing.size(), MOST_STROKES);
            for (int position = 0; position < size; position++) {
                ends[position] = 0;
                if (drawing.isLinkedToNext(position)) {
                    int reachable = beginAt(position) + 2 * acceleration * drawing.lengthAt(position);
                    int corner = drawing.cornerSquare(position, squareLimit);
                    ends[position] = Math.min(corner, reachable);
                }
            }
            // Backwards for braking: an end that is lowered here lowers the ones before it only.
            for (int position = size - 1; position > 0; position--) {
                int brakable = ends[position] + 2 * acceleration * drawing.lengthAt(position);
                ends[position - 1] = Math.min(ends[position - 1], brakable);
            }
        }

        int endAt(int position) {
            return isWithin(position, 0, MOST_STROKES - 1) ? ends[position] : 0;
        }

        /** The square at the beginning; at the first position of a run the end before it is 0. */
        int beginAt(int position) {
            return endAt(position - 1);
        }
    }
}
