/** Counts the answers that are not the ones due, and prints each of them. */
final class Check {
    private static int checked = 0;
    private static int wrong = 0;

    private Check() {
    }

    static void due(String call, long got, long want) {
        checked++;
        if (got != want) {
            wrong++;
            System.out.println(call + " answered " + got + ", due is " + want);
        }
    }

    /** One answer for each position of the plan, as 2 times the stroke plus the direction. */
    static void plan(String after, PlotterPlanner planner, int... codes) {
        due(after + ": strokeCount()", planner.strokeCount(), codes.length);
        for (int position = 0; position < codes.length; position++) {
            String at = "At(" + position + ")";
            due(after + ": stroke" + at, planner.strokeAt(position), codes[position] / 2);
            due(after + ": direction" + at, planner.directionAt(position), codes[position] % 2);
        }
        due(after + ": strokeAt(end)", planner.strokeAt(codes.length), PlotterPlanner.NOT_FOUND);
    }

    static boolean anyWrong() {
        return wrong > 0;
    }

    static void finish() {
        System.out.println(checked + " answers, " + wrong + " not as due");
        if (wrong > 0) {
            System.exit(1);
        }
    }
}
