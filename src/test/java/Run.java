import java.util.ArrayList;
import java.util.List;
import java.util.TreeSet;

/**
 * Calls on a new object, each with the answer that is due. A run is played on an object that is really new, and on
 * objects that other calls have left as new, up to where its last call is the 512th.
 */
final class Run {
    static final int MOST_CALLS = 512;
    private static final int[] LEADS = {0, 1, 2, 17, 128, 255, 256, 257, MOST_CALLS - 1, MOST_CALLS};

    private interface Call {
        long ask(CurveScan scan);
    }

    private record Step(String told, Call call, long want) {
        void ask(Check check, String where, CurveScan scan) {
            check.due(where + told, call.ask(scan), want);
        }
    }

    private final String name;
    private final int width;
    private final List<Step> steps = new ArrayList<>();

    Run(String name, int width) {
        this.name = name;
        this.width = width;
    }

    private Run then(String told, Call call, long want) {
        steps.add(new Step(told, call, want));
        return this;
    }

    Run point(int x, int y, boolean on, long want) {
        return then("point(" + x + ", " + y + ", " + on + ")", scan -> scan.point(x, y, on), want);
    }

    Run close(long want) {
        return then("close()", CurveScan::close, want);
    }

    Run clear(long want) {
        return then("clear()", CurveScan::clear, want);
    }

    Run winding(int x, int y, long want) {
        return then("winding(" + x + ", " + y + ")", scan -> scan.winding(x, y), want);
    }

    Run row(int j, long want) {
        return then("row(" + j + ")", scan -> scan.row(j), want);
    }

    Run count(int what, long want) {
        return then("count(" + what + ")", scan -> scan.count(what), want);
    }

    Run counts(int contours, int inAll, int madeUp) {
        return count(0, Math.max(1, Math.min(64, width))).count(1, contours).count(2, inAll).count(3, madeUp);
    }

    /** Points of three numbers each: x, y and 1 for on; they come behind none. */
    Run points(int... numbers) {
        for (int k = 0; k < numbers.length; k += 3) {
            point(numbers[k], numbers[k + 1], numbers[k + 2] == 1, k / 3 + 1);
        }
        return this;
    }

    Run contour(int closed, int... numbers) {
        return points(numbers).close(closed);
    }

    /** A square that goes from the x axis to the y axis. */
    Run square(int closed, int low, int high) {
        return contour(closed, low, low, 1, high, low, 1, high, high, 1, low, high, 1);
    }

    Run squareBackwards(int closed, int low, int high) {
        return contour(closed, low, low, 1, low, high, 1, high, high, 1, high, low, 1);
    }

    /** The same place again and again, behind points that are there. */
    Run samePoints(int x, int y, boolean on, int first, int last) {
        for (int k = first; k <= last; k++) {
            point(x, y, on, k);
        }
        return this;
    }

    void play(Check check) {
        int spare = MOST_CALLS - steps.size();
        check.due(name + ": calls beyond 512", Math.max(0, -spare), 0);
        TreeSet<Integer> leads = new TreeSet<>();
        for (int lead : LEADS) {
            leads.add(Math.max(0, Math.min(lead, spare)));
        }
        for (int lead : leads) {
            for (Run before : runsThatLeaveItNew()) {
                playBehind(check, before, lead);
            }
        }
    }

    private void playBehind(Check check, Run before, int lead) {
        CurveScan scan = new CurveScan(width);
        List<Step> all = new ArrayList<>();
        while (all.size() + before.steps.size() <= lead) {
            all.addAll(before.steps);
        }
        while (all.size() < lead) {
            all.addAll(new Run("", width).count(1, 0).steps);
        }
        all.addAll(steps);
        for (int k = 0; k < all.size(); k++) {
            all.get(k).ask(check, name + " (" + before.name + "), call " + (k + 1) + ": ", scan);
        }
    }

    private static List<Run> runsThatLeaveItNew() {
        return List.of(
                new Run("asked before", 1).count(2, 0).row(0, 0).winding(0, 0, 0).count(3, 0),
                new Run("refused before", 1).point(20001, 0, true, CurveScan.REFUSED).close(CurveScan.NONE)
                        .winding(0, -20001, 2000).row(301, 0).count(4, CurveScan.REFUSED).clear(0),
                new Run("used before", 1).square(1, 0, 64).winding(32, 32, 1).row(0, 1).point(5, 5, false, 1).clear(1),
                new Run("filled before", 1).samePoints(32, 32, false, 1, 256).point(32, 32, true, CurveScan.FULL)
                        .close(1).row(0, 1).clear(1));
    }
}
