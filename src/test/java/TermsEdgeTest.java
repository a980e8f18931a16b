/**
 * What the document's terms say, sentence by sentence, with calls on both sides of each boundary that they name;
 * Run plays them at other calls of the 512 too.
 */
public final class TermsEdgeTest {
    private static final Check CHECK = new Check();
    private static final int MOST = 256;

    private static final String CALLS = "at most 512 calls";
    private static final String REACH = "x and y, -20000 to 20000";
    private static final String IN_ALL = "at most 256 in all";
    private static final String NEIGHBOURS = "the last and the first are, too";
    private static final String UNIT = "64ths of a pixel";
    private static final String MIDDLE = "between two neighbours that are not on lies one that is on, in their middle";
    private static final String LINE = "between two that are on a line";
    private static final String BEND = "a point that is not on bends the curve between its neighbours";
    private static final String WAY = "turns that go from the x axis (right) to the y axis (down) count 1";
    private static final String BEGINS = "one without points that are on begins between its last and first";
    private static final String SINGLE = "one of a single point is that point alone, on or not";
    private static final String IN = "a place is in if its winding is not 0, or it is on a curve";
    private static final String CENTRE = "the centre of pixel i of row j is (64 i + 32, 64 j + 32)";

    public static void main(String[] args) {
        fiveHundredTwelveCallsOfOneKind();
        fiveHundredTwelveCallsOfSeveralKinds();
        laterCallsEnd();
        pointsReach();
        pointsAtTheReachAreKept();
        pointsInAll();
        lastPointOfAllIsKept();
        pixelHas64Units();
        middleOfTwoNotOn();
        lineBetweenTwoOn();
        bendOfOneNotOn();
        wayOfTurns();
        lastAndFirstBothOn();
        lastAndFirstBothNotOn();
        lastAndFirstOneOn();
        lastAndFirstOfTwo();
        lastAndFirstOf256();
        noneOnBeginsBetweenLastAndFirst();
        noneOnBeginsAtHalves();
        noneOnOfTwo();
        noneOnOf256();
        oneOnBeginsThere();
        singlePoint();
        singlePointAtTheReach();
        twoPointsAreMoreThanOne();
        inIfWindingIsNotZero();
        inIfOnCurve();
        centreOfPixel();
        CHECK.end();
    }

    private static Run run(String sentence, int width) {
        return new Run(sentence, width);
    }

    private static void fiveHundredTwelveCallsOfOneKind() {
        Run points = run(CALLS, 1).samePoints(1, 2, true, 1, MOST);
        Run closes = run(CALLS, 1);
        Run clears = run(CALLS, 1);
        Run windings = run(CALLS, 1);
        Run rows = run(CALLS, 1);
        Run counts = run(CALLS, 1);
        for (int k = 0; k < Run.MOST_CALLS; k++) {
            if (k >= MOST) {
                points.point(1, 2, true, CurveScan.FULL);
            }
            closes.close(CurveScan.NONE);
            clears.clear(0);
            windings.winding(k, -k, 0);
            rows.row(k - 256, 0);
            counts.count(0, 1);
        }
        for (Run run : new Run[] {points, closes, clears, windings, rows, counts}) {
            run.play(CHECK);
        }
    }

    private static void fiveHundredTwelveCallsOfSeveralKinds() {
        Run contours = run(CALLS, 1);
        for (int k = 1; k <= MOST; k++) {
            contours.point(k, 0, k % 2 == 0, 1).close(k);
        }
        contours.play(CHECK);
        Run clears = run(CALLS, 3);
        for (int k = 0; k < 128; k++) {
            clears.point(96, 32, k % 2 == 0, 1).close(1).row(0, 0b10).clear(1);
        }
        clears.play(CHECK);
        Run windings = run(CALLS, 1).samePoints(0, 0, true, 1, MOST - 2)
                .point(600, 0, true, MOST - 1).point(600, 600, true, MOST).close(1);
        for (int k = 1; k <= 255; k++) {
            windings.winding(300 + k, 300, 1);
        }
        windings.play(CHECK);
        Run late = run(CALLS, 1).samePoints(0, 0, false, 1, MOST - 1);
        for (int k = 0; k < 255; k++) {
            late.point(0, 20001 + k, true, CurveScan.REFUSED);
        }
        late.point(0, 20000, true, MOST).point(0, 20000, true, CurveScan.FULL).play(CHECK);
    }

    /** What later calls answer is free; that they end without an exception is not. */
    private static void laterCallsEnd() {
        CurveScan scan = new CurveScan(64);
        for (int k = 0; k < 20 * Run.MOST_CALLS; k++) {
            scan.point(k, -k, k % 3 == 0);
            scan.winding(k, -k);
            scan.row(k % 300);
            scan.count(k % 5);
            if (k % 7 == 0) {
                scan.close();
            }
            if (k % 3000 == 2999) {
                scan.clear();
            }
        }
    }

    private static void pointsReach() {
        for (boolean on : new boolean[] {true, false}) {
            run(REACH, 1).point(20000, 0, on, 1).point(20001, 0, on, CurveScan.REFUSED)
                    .point(-20000, 0, on, 2).point(-20001, 0, on, CurveScan.REFUSED)
                    .point(0, 20000, on, 3).point(0, 20001, on, CurveScan.REFUSED)
                    .point(0, -20000, on, 4).point(0, -20001, on, CurveScan.REFUSED)
                    .point(20000, -20000, on, 5).point(20001, -20001, on, CurveScan.REFUSED)
                    .counts(0, 5, 5).play(CHECK);
        }
    }

    private static void pointsAtTheReachAreKept() {
        run(REACH, 1).contour(1, -20000, -20000, 1, 20000, -20000, 1, 20000, 20000, 1, -20000, 20000, 1)
                .winding(20000, 20000, 1000).winding(19999, 19999, 1)
                .winding(-20000, -20000, 1000).winding(-19999, -19999, 1)
                .winding(20000, -20000, 1000).winding(19999, -19999, 1)
                .winding(-20000, 20000, 1000).winding(-19999, 19999, 1).play(CHECK);
        run(REACH, 1).contour(1, -20000, -20000, 0, 20000, -20000, 0, 20000, 20000, 0, -20000, 20000, 0)
                .winding(20000, 0, 1000).winding(19999, 0, 1).winding(20000, 1, 0)
                .winding(0, -20000, 1000).winding(0, -19999, 1).winding(1, -20000, 0).play(CHECK);
    }

    private static void pointsInAll() {
        int[] closedBefore = {0, 1, 128, 255};
        for (int closed : closedBefore) {
            Run run = run(IN_ALL, 1).samePoints(3, 3, true, 1, closed);
            if (closed > 0) {
                run.close(1);
            }
            run.samePoints(4, 4, false, 1, MOST - 1 - closed).count(2, MOST - 1)
                    .point(5, 5, true, MOST - closed).count(2, MOST)
                    .point(6, 6, true, CurveScan.FULL).count(2, MOST).count(3, MOST - closed).play(CHECK);
        }
        run(IN_ALL, 1).samePoints(3, 3, true, 1, MOST).close(1).point(6, 6, true, CurveScan.FULL)
                .counts(1, MOST, 0).play(CHECK);
        Run many = run(IN_ALL, 1);
        for (int k = 1; k < MOST; k++) {
            many.point(k, k, true, 1).close(k);
        }
        many.point(6, 6, false, 1).point(6, 6, true, CurveScan.FULL).play(CHECK);
    }

    /** The 256th point bends its contour like any other, and the 257th leaves no trace. */
    private static void lastPointOfAllIsKept() {
        run(IN_ALL, 1).samePoints(0, 0, true, 1, MOST - 2).point(100, 0, true, MOST - 1).point(50, 100, false, MOST)
                .point(50, 300, true, CurveScan.FULL).close(1)
                .winding(50, 50, 1000).winding(50, 49, 1).winding(50, 51, 0).winding(50, 300, 0).play(CHECK);
        run(IN_ALL, 1).samePoints(0, 0, true, 1, MOST - 1).close(1).point(70, 70, true, 1)
                .point(90, 90, true, CurveScan.FULL).close(2)
                .winding(70, 70, 1000).winding(90, 90, 0).winding(80, 80, 0).winding(0, 0, 1000).play(CHECK);
    }

    /** A square of 64 units has the size of a pixel, and one of 65 reaches no further centre. */
    private static void pixelHas64Units() {
        run(UNIT, 4).square(1, 64, 128).row(0, 0).row(1, 0b10).row(2, 0).play(CHECK);
        run(UNIT, 4).square(1, 64, 159).row(1, 0b10).row(2, 0).clear(1).square(1, 64, 160).row(1, 0b110).row(2, 0b110)
                .play(CHECK);
    }

    private static void middleOfTwoNotOn() {
        run(MIDDLE, 1).contour(1, 0, 0, 1, 0, 100, 0, 100, 100, 0, 100, 0, 1)
                .winding(50, 100, 1000).winding(50, 99, -1).winding(50, 101, 0)
                .winding(49, 100, 0).winding(51, 100, 0).winding(0, 100, 0).winding(100, 100, 0).play(CHECK);
        run(MIDDLE, 1).contour(1, 0, 0, 1, 0, 100, 0, 101, 100, 0, 101, 0, 1)
                .winding(50, 100, 0).winding(51, 100, 0).winding(50, 99, -1).winding(51, 99, -1).play(CHECK);
        run(MIDDLE, 1).contour(1, 0, 0, 0, 0, 100, 1, 100, 100, 0, 100, 0, 1)
                .winding(50, 100, 0).winding(0, 100, 1000).play(CHECK);
    }

    private static void lineBetweenTwoOn() {
        run(LINE, 1).contour(1, 0, 0, 1, 300, 100, 1, 300, -100, 1)
                .winding(150, 50, 1000).winding(3, 1, 1000).winding(297, 99, 1000).winding(150, 51, 0)
                .winding(150, 49, -1).winding(151, 50, -1).winding(149, 50, 0).winding(300, 0, 1000)
                .winding(299, 0, -1).winding(301, 0, 0).play(CHECK);
        run(LINE, 1).contour(1, 0, 0, 1, 300, 100, 0, 300, -100, 1)
                .winding(150, 50, 0).winding(300, 0, 0).winding(300, 100, 0).play(CHECK);
    }

    /** At t = 1/4, 1/2 and 3/4, where the curve passes whole places. */
    private static void bendOfOneNotOn() {
        run(BEND, 1).contour(1, 0, 0, 1, 160, 0, 0, 160, 160, 1)
                .winding(70, 10, 1000).winding(70, 11, 1).winding(70, 9, 0)
                .winding(120, 40, 1000).winding(119, 40, 1).winding(121, 40, 0)
                .winding(150, 90, 1000).winding(149, 90, 1).winding(151, 90, 0)
                .winding(160, 0, 0).winding(0, 0, 1000).winding(160, 160, 1000).play(CHECK);
        run(BEND, 1).contour(1, -32, 0, 1, 0, 64, 0, 96, -32, 1)
                .winding(-12, 22, 1000).winding(-12, 21, -1).winding(-12, 23, 0)
                .winding(16, 24, 1000).winding(16, 23, -1).winding(16, 25, 0)
                .winding(52, 6, 1000).winding(52, 5, -1).winding(52, 7, 0).winding(0, 64, 0).play(CHECK);
    }

    private static void wayOfTurns() {
        run(WAY, 1).contour(1, 0, 0, 1, 100, 0, 1, 0, 100, 1).winding(10, 10, 1).clear(1)
                .contour(1, 0, 0, 1, 0, 100, 1, 100, 0, 1).winding(10, 10, -1).play(CHECK);
        run(WAY, 1).contour(1, 100, 0, 0, 0, 100, 0, -100, 0, 0, 0, -100, 0).winding(0, 0, 1).clear(1)
                .contour(1, 100, 0, 0, 0, -100, 0, -100, 0, 0, 0, 100, 0).winding(0, 0, -1).play(CHECK);
        run(WAY, 1).contour(1, 0, 0, 1, 100, 100, 1, 100, 0, 1, 0, 100, 1)
                .winding(90, 50, -1).winding(10, 50, 1).winding(50, 50, 1000).winding(50, 10, 0).play(CHECK);
        run(WAY, 1).square(1, 0, 90).square(2, 0, 90).squareBackwards(3, 0, 60).squareBackwards(4, 0, 60)
                .squareBackwards(5, 0, 30).winding(75, 75, 2).winding(45, 45, 0).winding(15, 15, -1).play(CHECK);
    }

    private static void lastAndFirstBothOn() {
        run(NEIGHBOURS, 1).contour(1, 0, 0, 1, 200, 0, 1, 200, 200, 1)
                .winding(100, 100, 1000).winding(101, 100, 1).winding(99, 100, 0)
                .winding(199, 199, 1000).winding(200, 200, 1000).winding(201, 201, 0)
                .winding(0, 0, 1000).winding(-1, -1, 0).play(CHECK);
        run(NEIGHBOURS, 1).points(0, 0, 1, 200, 0, 1, 200, 200, 1)
                .winding(100, 100, 0).close(1).winding(100, 100, 1000).play(CHECK);
    }

    private static void lastAndFirstBothNotOn() {
        run(NEIGHBOURS, 1).contour(1, 0, 0, 0, 200, -100, 1, 200, 200, 1, 0, 100, 0)
                .winding(0, 50, 1000).winding(1, 50, 1).winding(-1, 50, 0)
                .winding(0, 49, 0).winding(0, 51, 0).winding(0, 0, 0).winding(0, 100, 0).play(CHECK);
    }

    private static void lastAndFirstOneOn() {
        run(NEIGHBOURS, 1).contour(1, 100, -100, 0, 200, 0, 1, 0, 0, 1)
                .winding(100, -50, 1000).winding(100, -49, 1).winding(100, -51, 0)
                .winding(100, 0, 1000).winding(100, 1, 0).play(CHECK);
        run(NEIGHBOURS, 1).contour(1, 0, 0, 1, 200, 0, 1, 100, 100, 0)
                .winding(100, 50, 1000).winding(100, 49, 1).winding(100, 51, 0)
                .winding(100, 0, 1000).winding(100, -1, 0).play(CHECK);
    }

    private static void lastAndFirstOfTwo() {
        run(NEIGHBOURS, 1).contour(1, 0, 0, 1, 100, 0, 1)
                .winding(100, 0, 1000).winding(101, 0, 0).winding(0, 0, 1000).winding(-1, 0, 0)
                .winding(50, 0, 1000).winding(50, 1, 0).winding(50, -1, 0).play(CHECK);
        run(NEIGHBOURS, 1).contour(1, 0, 0, 1, 100, 0, 0)
                .winding(50, 0, 1000).winding(51, 0, 0).winding(0, 0, 1000).winding(-1, 0, 0).play(CHECK);
        run(NEIGHBOURS, 1).contour(1, 100, 0, 0, 0, 0, 1)
                .winding(50, 0, 1000).winding(51, 0, 0).winding(0, 0, 1000).winding(-1, 0, 0).play(CHECK);
    }

    private static void lastAndFirstOf256() {
        Run run = run(NEIGHBOURS, 1);
        for (int k = 0; k < MOST - 1; k++) {
            run.point(k, 0, true, k + 1);
        }
        run.point(254, 254, true, MOST).close(1)
                .winding(100, 100, 1000).winding(100, 99, 1).winding(100, 101, 0)
                .winding(254, 100, 1000).winding(255, 100, 0).winding(100, 0, 1000).winding(100, -1, 0).play(CHECK);
    }

    private static void noneOnBeginsBetweenLastAndFirst() {
        run(BEGINS, 1).contour(1, 0, 0, 0, 60, 0, 0, 0, 60, 0)
                .winding(0, 30, 1000).winding(1, 30, 1).winding(-1, 30, 0).winding(0, 29, 0).winding(0, 31, 0)
                .winding(0, 0, 0).winding(60, 0, 0).winding(0, 60, 0)
                .winding(30, 0, 1000).winding(30, 30, 1000).play(CHECK);
        run(BEGINS, 1).contour(1, 0, 100, 0, 100, 100, 0, 100, 0, 0, 0, 0, 0)
                .winding(0, 50, 1000).winding(1, 50, -1).winding(-1, 50, 0).winding(0, 51, 0)
                .winding(0, 100, 0).winding(0, 0, 0).play(CHECK);
    }

    /** The curve begins at (0, 30 1/2): no rounding of this place brings it to a neighbour. */
    private static void noneOnBeginsAtHalves() {
        run(BEGINS, 1).contour(1, 0, 0, 0, 60, 0, 0, 0, 61, 0)
                .winding(0, 30, 0).winding(0, 31, 0).winding(1, 30, 1).winding(1, 31, 1).play(CHECK);
        run(BEGINS, 1).contour(1, 0, -61, 0, -60, 0, 0, 0, 0, 0)
                .winding(0, -30, 0).winding(0, -31, 0).winding(-1, -30, -1).winding(-1, -31, -1).play(CHECK);
    }

    private static void noneOnOfTwo() {
        run(BEGINS, 1).contour(1, 0, 0, 0, 80, 40, 0)
                .winding(40, 20, 1000).winding(20, 10, 1000).winding(18, 9, 0)
                .winding(60, 30, 1000).winding(62, 31, 0).winding(40, 21, 0).winding(0, 0, 0).play(CHECK);
        run(BEGINS, 1).contour(1, 7, 7, 0, 7, 7, 0)
                .winding(7, 7, 1000).winding(8, 7, 0).winding(7, 6, 0).play(CHECK);
    }

    private static void noneOnOf256() {
        run(BEGINS, 1).point(0, 0, false, 1).samePoints(200, 0, false, 2, 128)
                .samePoints(200, 200, false, 129, 255).point(0, 200, false, MOST).close(1)
                .winding(0, 100, 1000).winding(0, 99, 0).winding(0, 101, 0).winding(1, 100, 1).winding(-1, 100, 0)
                .winding(200, 0, 1000).winding(201, 0, 0).winding(200, 200, 1000).winding(0, 0, 0).play(CHECK);
    }

    private static void oneOnBeginsThere() {
        int[][] turned = {{0, 0, 1, 60, 0, 0, 0, 60, 0}, {60, 0, 0, 0, 60, 0, 0, 0, 1}, {0, 60, 0, 0, 0, 1, 60, 0, 0}};
        for (int[] numbers : turned) {
            run(BEGINS, 1).contour(1, numbers)
                    .winding(0, 0, 1000).winding(0, 30, 0).winding(30, 0, 0).winding(30, 30, 1000)
                    .winding(29, 29, 1).winding(31, 31, 0).play(CHECK);
        }
    }

    private static void singlePoint() {
        for (boolean on : new boolean[] {true, false}) {
            Run run = run(SINGLE, 2).point(96, 32, on, 1).winding(96, 32, 0).row(0, 0).close(1);
            for (int k = 0; k < 9; k++) {
                run.winding(95 + k % 3, 31 + k / 3, k == 4 ? 1000 : 0);
            }
            run.row(0, 0b10).row(1, 0).row(-1, 0).point(33, 32, on, 1).close(2).row(0, 0b10).play(CHECK);
        }
    }

    private static void singlePointAtTheReach() {
        for (boolean on : new boolean[] {true, false}) {
            for (int x : new int[] {-20000, 20000}) {
                int inwards = x < 0 ? 1 : -1;
                run(SINGLE, 64).point(x, -x, on, 1).close(1).winding(x, -x, 1000).winding(x + inwards, -x, 0)
                        .winding(x, -x - inwards, 0).winding(0, 0, 0).play(CHECK);
            }
        }
    }

    private static void twoPointsAreMoreThanOne() {
        run(SINGLE, 1).contour(1, 10, 10, 1).contour(2, 20, 10, 0)
                .winding(10, 10, 1000).winding(20, 10, 1000).winding(15, 10, 0)
                .contour(3, 10, 10, 1, 20, 10, 0).winding(15, 10, 1000).winding(16, 10, 0).play(CHECK);
    }

    private static void inIfWindingIsNotZero() {
        for (int forwards = 0; forwards <= 3; forwards++) {
            for (int backwards = 0; backwards <= 3; backwards++) {
                Run run = run(IN, 1);
                int closed = 0;
                for (int k = 0; k < forwards; k++) {
                    closed++;
                    run.square(closed, -300, 640 + k);
                }
                for (int k = 0; k < backwards; k++) {
                    closed++;
                    run.squareBackwards(closed, -300, 640 + k);
                }
                run.winding(32, 32, forwards - backwards).row(0, forwards == backwards ? 0 : 1)
                        .contour(closed + 1, 32, 32, 0).winding(32, 32, 1000).row(0, 1).play(CHECK);
            }
        }
    }

    private static void inIfOnCurve() {
        run(IN, 8).contour(1, 32, 32, 1, 352, 32, 1).row(0, 0b111111).row(1, 0).row(-1, 0)
                .winding(352, 32, 1000).winding(353, 32, 0).winding(352, 33, 0).play(CHECK);
        run(IN, 8).contour(1, 32, 33, 1, 352, 33, 1).row(0, 0).play(CHECK);
        run(IN, 8).contour(1, 96, 32, 1, 160, -96, 0, 224, 32, 1).row(0, 0b1110).row(-1, 0b100)
                .winding(160, -32, 1000).winding(160, -33, 0).play(CHECK);
        run(IN, 8).contour(1, 96, 32, 1, 160, -95, 0, 224, 32, 1).row(-1, 0).play(CHECK);
    }

    private static void centreOfPixel() {
        int[] pixels = {0, 1, 62, 63};
        int[] rows = {-300, -299, -1, 0, 1, 299, 300};
        for (int i : pixels) {
            for (int j : rows) {
                int x = 64 * i + 32;
                int y = 64 * j + 32;
                run(CENTRE, 64).contour(1, x, y, 1).row(j, 1L << i).row(j - 1, 0).row(j + 1, 0).clear(1)
                        .contour(1, x + 1, y, 1).contour(2, x - 1, y, 0).contour(3, x, y + 1, 1)
                        .contour(4, x, y - 1, 0).row(j, 0).row(j - 1, 0).row(j + 1, 0).play(CHECK);
            }
        }
        run(CENTRE, 64).contour(1, -32, 32, 1).contour(2, 4128, 32, 1).row(0, 0).play(CHECK);
    }
}
