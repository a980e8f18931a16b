import java.util.ArrayList;
import java.util.List;
import java.util.Random;

/** Made-up runs of calls against Oracle and a plain model of the state; the same runs each time. */
public final class OracleTest {
    private static final Check CHECK = new Check();
    private static final int[] REACHES = {2, 3, 5, 9, 40, 700, 5000, 20000};
    private static final int SMALL = 3;

    private static int onCurve = 0;
    private static int inside = 0;
    private static int outside = 0;

    public static void main(String[] args) {
        Random random = new Random(20261115L);
        for (int round = 0; round < 6000; round++) {
            compareShape(random, round, REACHES[round % REACHES.length]);
        }
        for (int round = 0; round < 40; round++) {
            compareRun(random, round);
        }
        for (int size = 1; size <= 3; size++) {
            compareEveryContour(size);
        }
        // Without places of every kind the comparison would say little.
        CHECK.due("many places on curves", onCurve > 10000 ? 1 : 0, 1);
        CHECK.due("many places inside", inside > 10000 ? 1 : 0, 1);
        CHECK.due("many places outside", outside > 10000 ? 1 : 0, 1);
        CHECK.end();
    }

    private static int within(Random random, int reach) {
        return random.nextInt(2 * reach + 1) - reach;
    }

    private static int clamp(int number) {
        return Math.max(-20000, Math.min(20000, number));
    }

    private static void compareShape(Random random, int round, int reach) {
        CurveScan scan = new CurveScan(64);
        Oracle oracle = new Oracle();
        List<List<int[]>> contours = new ArrayList<>();
        int howMany = 1 + random.nextInt(3);
        for (int c = 0; c < howMany; c++) {
            List<int[]> points = randomContour(random, reach);
            contours.add(points);
            for (int[] point : points) {
                scan.point(point[0], point[1], point[2] == 1);
            }
            scan.close();
            oracle.addContour(points);
        }
        for (int k = 0; k < 60; k++) {
            int[] place = k % 3 == 0
                    ? new int[] {within(random, reach), within(random, reach)}
                    : placeNearCurve(random, contours.get(random.nextInt(howMany)));
            int want = oracle.windingAt(place[0], place[1]);
            tally(want);
            CHECK.due("round " + round + ": " + told(contours) + "winding(" + place[0] + ", " + place[1] + ")",
                    scan.winding(place[0], place[1]), want);
        }
        if (reach >= 700 && round % 5 == 0) {
            int j = within(random, reach / 64 > 300 ? 300 : reach / 64);
            CHECK.due("round " + round + ": " + told(contours) + "row(" + j + ")", scan.row(j), rowOf(oracle, 64, j));
        }
    }

    /** Every contour of so many points of a small grid, at every place of the grid and round it. */
    private static void compareEveryContour(int size) {
        int kinds = 2 * SMALL * SMALL;
        int contours = size == 1 ? kinds : size == 2 ? kinds * kinds : kinds * kinds * kinds;
        for (int number = 0; number < contours; number++) {
            List<int[]> points = new ArrayList<>();
            int rest = number;
            for (int k = 0; k < size; k++) {
                int at = rest % kinds / 2;
                points.add(new int[] {at % SMALL, at / SMALL, rest % 2});
                rest /= kinds;
            }
            compareEveryPlace(points);
        }
    }

    private static void compareEveryPlace(List<int[]> points) {
        CurveScan scan = new CurveScan(1);
        Oracle oracle = new Oracle();
        for (int[] point : points) {
            scan.point(point[0], point[1], point[2] == 1);
        }
        scan.close();
        oracle.addContour(points);
        for (int x = -1; x <= SMALL; x++) {
            for (int y = -1; y <= SMALL; y++) {
                CHECK.due(told(List.of(points)) + "winding(" + x + ", " + y + ")", scan.winding(x, y),
                        oracle.windingAt(x, y));
            }
        }
    }

    private static List<int[]> randomContour(Random random, int reach) {
        List<int[]> points = new ArrayList<>();
        int size = 1 + random.nextInt(7);
        int onShare = random.nextInt(4);
        for (int k = 0; k < size; k++) {
            boolean edge = random.nextInt(4) == 0;
            int x = edge ? (random.nextBoolean() ? reach : -reach) : within(random, reach);
            int y = random.nextInt(4) == 0 ? (random.nextBoolean() ? reach : -reach) : within(random, reach);
            points.add(new int[] {x, y, random.nextInt(3) < onShare ? 1 : 0});
        }
        return points;
    }

    /** A place on or within a step of a curve, a chord or a point of the contour. */
    private static int[] placeNearCurve(Random random, List<int[]> points) {
        int size = points.size();
        int at = random.nextInt(size);
        int[] before = points.get((at + size - 1) % size);
        int[] bend = points.get(at);
        int[] after = points.get((at + 1) % size);
        double t = random.nextInt(3) == 0 ? 0.5 : random.nextDouble();
        int[] place = new int[2];
        for (int axis = 0; axis < 2; axis++) {
            double start = before[2] == 1 ? before[axis] : (before[axis] + bend[axis]) / 2.0;
            double end = after[2] == 1 ? after[axis] : (after[axis] + bend[axis]) / 2.0;
            double on = bend[2] == 1 || random.nextInt(8) == 0
                    ? (1 - t) * start + t * end
                    : (1 - t) * (1 - t) * start + 2 * t * (1 - t) * bend[axis] + t * t * end;
            place[axis] = clamp((int) Math.rint(on) + within(random, 1));
        }
        return place;
    }

    private static void tally(int winding) {
        if (winding == Oracle.ON_CURVE) {
            onCurve++;
        } else if (winding != 0) {
            inside++;
        } else {
            outside++;
        }
    }

    private static long rowOf(Oracle oracle, int width, int j) {
        long bits = 0L;
        for (int i = 0; i < width; i++) {
            if (oracle.windingAt(64 * i + 32, 64 * j + 32) != 0) {
                bits |= 1L << i;
            }
        }
        return bits;
    }

    private static String told(List<List<int[]>> contours) {
        StringBuilder text = new StringBuilder();
        for (List<int[]> points : contours) {
            for (int[] point : points) {
                text.append("point(").append(point[0]).append(", ").append(point[1]).append(", ");
                text.append(point[2] == 1).append(") ");
            }
            text.append("close() ");
        }
        return text.toString();
    }

    /** 512 calls of all kinds; rare clears let the points come to 256. */
    private static void compareRun(Random random, int round) {
        int width = 1 + random.nextInt(64);
        CurveScan scan = new CurveScan(width);
        Model model = new Model(width);
        int closeOneIn = 2 + random.nextInt(40);
        int clearOneIn = round % 2 == 0 ? 60 : 100000;
        for (int call = 0; call < 512; call++) {
            String name = "run " + round + ", call " + call + ": ";
            int kind = random.nextInt(20);
            if (random.nextInt(clearOneIn) == 0) {
                CHECK.due(name + "clear", scan.clear(), model.clear());
            } else if (random.nextInt(closeOneIn) == 0) {
                CHECK.due(name + "close", scan.close(), model.close());
            } else if (kind < 14) {
                int x = within(random, 4200);
                int y = random.nextInt(30) == 0 ? within(random, 40000) : within(random, 1000);
                boolean on = random.nextBoolean();
                CHECK.due(name + "point", scan.point(x, y, on), model.point(x, y, on));
            } else if (kind < 16) {
                int x = within(random, 4200);
                int y = within(random, random.nextInt(30) == 0 ? 40000 : 1000);
                CHECK.due(name + "winding", scan.winding(x, y), model.winding(x, y));
            } else if (kind < 17) {
                int j = within(random, 17);
                CHECK.due(name + "row", scan.row(j), rowOf(model.oracle, width, j));
            } else {
                int what = within(random, 5);
                CHECK.due(name + "count " + what, scan.count(what), model.count(what));
            }
        }
    }

    private static final class Model {
        private final int width;
        private Oracle oracle = new Oracle();
        private List<int[]> made = new ArrayList<>();
        private int closed = 0;
        private int all = 0;

        Model(int width) {
            this.width = width;
        }

        int point(int x, int y, boolean on) {
            if (Math.abs(x) > 20000 || Math.abs(y) > 20000) {
                return -1;
            }
            if (all == 256) {
                return -3;
            }
            made.add(new int[] {x, y, on ? 1 : 0});
            all++;
            return made.size();
        }

        int close() {
            if (made.isEmpty()) {
                return -2;
            }
            oracle.addContour(made);
            made = new ArrayList<>();
            return ++closed;
        }

        int clear() {
            int were = closed;
            oracle = new Oracle();
            made = new ArrayList<>();
            closed = 0;
            all = 0;
            return were;
        }

        int winding(int x, int y) {
            return Math.abs(x) > 20000 || Math.abs(y) > 20000 ? 2000 : oracle.windingAt(x, y);
        }

        int count(int what) {
            int[] answers = {width, closed, all, made.size()};
            return what < 0 || what > 3 ? -1 : answers[what];
        }
    }
}
