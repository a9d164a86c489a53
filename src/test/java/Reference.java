import java.util.ArrayDeque;
import java.util.ArrayList;
import java.util.Deque;
import java.util.HashMap;
import java.util.HashSet;
import java.util.List;
import java.util.Map;
import java.util.Set;

/**
 * The document once more, written from it in another way: lists of strokes, the best plan by
 * trying all plans, the speeds by lowering them until they hold.
 */
final class Reference {
    private record Stroke(int x1, int y1, int x2, int y2, int pen) {
        int length() {
            return Math.max(Math.abs(x1 - x2), Math.abs(y1 - y2));
        }

        Stroke turned() {
            return new Stroke(x2, y2, x1, y1, pen);
        }
    }

    private record Place(Stroke stroke, boolean backward) {
        Stroke drawn() {
            return backward ? stroke.turned() : stroke;
        }
    }

    private record Point(int x, int y) {
    }

    private record State(List<Stroke> strokes, List<Place> plan) {
    }

    // A stroke is found by its identity: two equal records are two strokes.
    private List<Stroke> strokes = new ArrayList<>();
    private List<Place> plan = new ArrayList<>();
    private final Deque<State> undos = new ArrayDeque<>();
    private int penCost = 50;
    private int squareLimit = 400;
    private int acceleration = 10;
    private List<Place> best;
    private int bestSum;

    private void edit() {
        undos.addLast(new State(new ArrayList<>(strokes), new ArrayList<>(plan)));
        if (undos.size() > 4) {
            undos.removeFirst();
        }
    }

    private boolean isIndex(int index) {
        return 0 <= index && index < strokes.size();
    }

    private int numberOf(Stroke stroke) {
        for (int number = 0; number < strokes.size(); number++) {
            if (strokes.get(number) == stroke) {
                return number;
            }
        }
        throw new IllegalStateException("a stroke of the plan is missing");
    }

    int addStroke(int x1, int y1, int x2, int y2, int pen) {
        for (int coordinate : new int[] {x1, y1, x2, y2}) {
            if (coordinate < 0 || coordinate > 99) {
                return -1;
            }
        }
        if (pen < 0 || pen > 3 || new Point(x1, y1).equals(new Point(x2, y2))) {
            return -1;
        }
        if (strokes.size() == 8) {
            return -2;
        }
        edit();
        Stroke stroke = new Stroke(x1, y1, x2, y2, pen);
        strokes.add(stroke);
        plan.add(new Place(stroke, false));
        return strokes.size() - 1;
    }

    int removeStroke(int number) {
        if (!isIndex(number)) {
            return -1;
        }
        edit();
        remove(strokes.get(number));
        return strokes.size();
    }

    private void remove(Stroke stroke) {
        strokes.removeIf(other -> other == stroke);
        plan.removeIf(place -> place.stroke() == stroke);
    }

    int strokeCount() {
        return strokes.size();
    }

    int penOf(int number) {
        return isIndex(number) ? strokes.get(number).pen() : -1;
    }

    int alikeTo(int number) {
        if (!isIndex(number)) {
            return -1;
        }
        for (int other = 0; other < strokes.size(); other++) {
            if (other != number && alike(strokes.get(other), strokes.get(number))) {
                return other;
            }
        }
        return -3;
    }

    private static boolean alike(Stroke a, Stroke b) {
        return a.equals(b) || a.equals(b.turned());
    }

    int coveredBy(int number) {
        if (!isIndex(number)) {
            return -1;
        }
        Stroke a = strokes.get(number);
        for (int other = 0; other < strokes.size(); other++) {
            Stroke b = strokes.get(other);
            if (a.pen() == b.pen() && !alike(a, b)
                    && contains(b, a.x1(), a.y1()) && contains(b, a.x2(), a.y2())) {
                return other;
            }
        }
        return -3;
    }

    private static boolean contains(Stroke b, int x, int y) {
        int dx = b.x2() - b.x1();
        int dy = b.y2() - b.y1();
        int along = dx * (x - b.x1()) + dy * (y - b.y1());
        int aside = dx * (y - b.y1()) - dy * (x - b.x1());
        return aside == 0 && 0 <= along && along <= dx * dx + dy * dy;
    }

    int removeDuplicates() {
        edit();
        List<Stroke> kept = new ArrayList<>();
        for (Stroke stroke : new ArrayList<>(strokes)) {
            if (kept.stream().anyMatch(other -> alike(other, stroke))) {
                remove(stroke);
            } else {
                kept.add(stroke);
            }
        }
        return undos.getLast().strokes().size() - strokes.size();
    }

    int leastRuns(int pen) {
        if (pen < 0 || pen > 3) {
            return -1;
        }
        Map<Point, List<Point>> neighbours = new HashMap<>();
        for (Stroke stroke : strokes) {
            if (stroke.pen() == pen) {
                Point a = new Point(stroke.x1(), stroke.y1());
                Point b = new Point(stroke.x2(), stroke.y2());
                neighbours.computeIfAbsent(a, point -> new ArrayList<>()).add(b);
                neighbours.computeIfAbsent(b, point -> new ArrayList<>()).add(a);
            }
        }
        Set<Point> seen = new HashSet<>();
        int runs = 0;
        for (Point point : neighbours.keySet()) {
            if (!seen.contains(point)) {
                int odd = oddFrom(point, neighbours, seen);
                runs += odd == 0 ? 1 : odd / 2;
            }
        }
        return runs;
    }

    private static int oddFrom(Point point, Map<Point, List<Point>> neighbours, Set<Point> seen) {
        if (!seen.add(point)) {
            return 0;
        }
        int odd = neighbours.get(point).size() % 2;
        for (Point next : neighbours.get(point)) {
            odd += oddFrom(next, neighbours, seen);
        }
        return odd;
    }

    int strokeAt(int position) {
        if (position < 0) {
            return -1;
        }
        return isIndex(position) ? numberOf(plan.get(position).stroke()) : -3;
    }

    int directionAt(int position) {
        if (position < 0) {
            return -1;
        }
        if (!isIndex(position)) {
            return -3;
        }
        return plan.get(position).backward() ? 1 : 0;
    }

    int movePosition(int from, int to) {
        if (!isIndex(from) || !isIndex(to)) {
            return -1;
        }
        edit();
        plan.add(to, plan.remove(from));
        return strokeAt(to);
    }

    int turnPosition(int position) {
        if (!isIndex(position)) {
            return -1;
        }
        edit();
        Place place = plan.get(position);
        plan.set(position, new Place(place.stroke(), !place.backward()));
        return directionAt(position);
    }

    private int step(Place last, Place next) {
        Stroke to = next.drawn();
        if (last == null) {
            return Math.max(to.x1(), to.y1()) + penCost;
        }
        Stroke from = last.drawn();
        int travel = new Stroke(from.x2(), from.y2(), to.x1(), to.y1(), 0).length();
        return travel + (from.pen() == to.pen() ? 0 : penCost);
    }

    int cost() {
        int sum = 0;
        for (int position = 0; position < plan.size(); position++) {
            sum += step(position == 0 ? null : plan.get(position - 1), plan.get(position));
        }
        return sum;
    }

    int penChanges() {
        int changes = 0;
        int pen = -1;
        for (Place place : plan) {
            changes += place.stroke().pen() == pen ? 0 : 1;
            pen = place.stroke().pen();
        }
        return changes;
    }

    /** The lengths of the runs. */
    private List<Integer> runs() {
        List<Integer> lengths = new ArrayList<>();
        for (int position = 0; position < plan.size(); position++) {
            if (position > 0 && linked(position - 1)) {
                lengths.set(lengths.size() - 1, lengths.get(lengths.size() - 1) + 1);
            } else {
                lengths.add(1);
            }
        }
        return lengths;
    }

    private boolean linked(int position) {
        if (position < 0 || position + 1 >= plan.size()) {
            return false;
        }
        Stroke a = plan.get(position).drawn();
        Stroke b = plan.get(position + 1).drawn();
        return a.pen() == b.pen() && a.x2() == b.x1() && a.y2() == b.y1();
    }

    int runCount() {
        return runs().size();
    }

    int runLength(int run) {
        if (run < 0) {
            return -1;
        }
        return run < runs().size() ? runs().get(run) : -3;
    }

    int setPenCost(int cost) {
        if (cost < 0 || cost > 500) {
            return -1;
        }
        int previous = penCost;
        penCost = cost;
        return previous;
    }

    int bestCost() {
        return findBest();
    }

    int bestAt(int position) {
        if (position < 0) {
            return -1;
        }
        if (!isIndex(position)) {
            return -3;
        }
        findBest();
        Place place = best.get(position);
        return 2 * numberOf(place.stroke()) + (place.backward() ? 1 : 0);
    }

    int adoptBest() {
        edit();
        int sum = findBest();
        plan = new ArrayList<>(best);
        return sum;
    }

    // All plans in the document's order of preference; only a cheaper one takes the place.
    private int findBest() {
        best = null;
        bestSum = Integer.MAX_VALUE;
        tryAll(new ArrayList<>(), 0, 0);
        return bestSum;
    }

    // The bits of begun tell which strokes the front already has.
    private void tryAll(List<Place> front, int begun, int sum) {
        if (sum >= bestSum) {
            return;
        }
        if (front.size() == strokes.size()) {
            best = new ArrayList<>(front);
            bestSum = sum;
            return;
        }
        Place last = front.isEmpty() ? null : front.get(front.size() - 1);
        for (int number = 0; number < strokes.size(); number++) {
            for (int direction = 0; direction < 2 && (begun >> number) % 2 == 0; direction++) {
                Place next = new Place(strokes.get(number), direction == 1);
                front.add(next);
                tryAll(front, begun + (1 << number), sum + step(last, next));
                front.remove(front.size() - 1);
            }
        }
    }

    int adoptNearest() {
        edit();
        List<Stroke> remaining = new ArrayList<>(strokes);
        plan = new ArrayList<>();
        while (!remaining.isEmpty()) {
            Place last = plan.isEmpty() ? null : plan.get(plan.size() - 1);
            Place nearest = new Place(remaining.get(0), false);
            for (Stroke stroke : remaining) {
                for (int direction = 0; direction < 2; direction++) {
                    Place next = new Place(stroke, direction == 1);
                    if (step(last, next) < step(last, nearest)) {
                        nearest = next;
                    }
                }
            }
            plan.add(nearest);
            Stroke taken = nearest.stroke();
            remaining.removeIf(stroke -> stroke == taken);
        }
        return cost();
    }

    int setSquareLimit(int limit) {
        if (limit < 1 || limit > 9999) {
            return -1;
        }
        int previous = squareLimit;
        squareLimit = limit;
        return previous;
    }

    int setAcceleration(int value) {
        if (value < 1 || value > 99) {
            return -1;
        }
        int previous = acceleration;
        acceleration = value;
        return previous;
    }

    int cornerLimit(int position) {
        if (!isIndex(position)) {
            return -1;
        }
        return linked(position) ? corner(position) : -3;
    }

    private int corner(int position) {
        Stroke a = plan.get(position).drawn();
        Stroke b = plan.get(position + 1).drawn();
        int ax = a.x2() - a.x1();
        int ay = a.y2() - a.y1();
        int bx = b.x2() - b.x1();
        int by = b.y2() - b.y1();
        if (arePositiveMultiples(ax, ay, bx, by)) {
            return squareLimit;
        }
        return ax * bx + ay * by > 0 ? Math.floorDiv(squareLimit, 4) : 0;
    }

    // Positive multiples have the same signs and the same vector in lowest terms.
    private static boolean arePositiveMultiples(int ax, int ay, int bx, int by) {
        int a = greatestDivisor(Math.abs(ax), Math.abs(ay));
        int b = greatestDivisor(Math.abs(bx), Math.abs(by));
        return ax / a == bx / b && ay / a == by / b;
    }

    private static int greatestDivisor(int a, int b) {
        return b == 0 ? a : greatestDivisor(b, a % b);
    }

    // Begins with the corner limits and lowers both sides until nothing is broken any more.
    private int[] ends() {
        int[] ends = new int[plan.size()];
        for (int position = 0; position < ends.length; position++) {
            ends[position] = linked(position) ? corner(position) : 0;
        }
        boolean lowered = true;
        while (lowered) {
            lowered = false;
            for (int position = ends.length - 1; position >= 0; position--) {
                int gain = 2 * acceleration * plan.get(position).stroke().length();
                int begin = position == 0 ? 0 : ends[position - 1];
                if (ends[position] > begin + gain) {
                    ends[position] = begin + gain;
                    lowered = true;
                } else if (begin > ends[position] + gain) {
                    ends[position - 1] = ends[position] + gain;
                    lowered = true;
                }
            }
        }
        return ends;
    }

    int endSquare(int position) {
        return isIndex(position) ? ends()[position] : -1;
    }

    int peakSquare(int position) {
        if (!isIndex(position)) {
            return -1;
        }
        int begin = position == 0 ? 0 : ends()[position - 1];
        int gain = 2 * acceleration * plan.get(position).stroke().length();
        return Math.min(squareLimit, (begin + ends()[position] + gain) / 2);
    }

    int undo() {
        if (undos.isEmpty()) {
            return -3;
        }
        State state = undos.removeLast();
        strokes = state.strokes();
        plan = state.plan();
        return undos.size();
    }
}
