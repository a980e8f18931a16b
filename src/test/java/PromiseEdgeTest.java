/**
 * The boundaries that the promises name, sentence by sentence, with calls on both sides of each
 * boundary; Run plays them at other calls of the 512 too.
 */
public final class PromiseEdgeTest {
    private static final Check CHECK = new Check();
    private static final int MOST = 256;
    private static final int LEAST_INT = Integer.MIN_VALUE;
    private static final int MOST_INT = Integer.MAX_VALUE;

    /** Numbers whose double, or whose 64- or 128-fold, wraps round to a small one, and the first ones beyond. */
    private static final int[] BEYOND = {
            20001, 20002, 40000, 1 << 24, 1 << 25, 1 << 26, 1 << 30, MOST_INT - 1, MOST_INT,
            -20001, -20002, -40000, -(1 << 24), -(1 << 25), -(1 << 26), -(1 << 30), LEAST_INT + 1, LEAST_INT};

    private static final String CLAMPED = "1: 1 to 64, clamped";
    private static final String NO_CONTOURS = "1: no contours";
    private static final String HOW_MANY = "2: how many it has";
    private static final String REFUSED = "2: refused for numbers out of range";
    private static final String FULL = "2: full with 256 in all";
    private static final String CLOSED = "3: how many are closed";
    private static final String ANOTHER = "3: another one is begun";
    private static final String NONE = "3: none if it has no points";
    private static final String CLEAR = "4: no contours and points then, also none that is made up";
    private static final String WERE = "4: how many were closed";
    private static final String AMONG = "5: among the contours that are closed";
    private static final String ON_CURVE = "5: 1000 if it is on a curve of these";
    private static final String PLACE_BEYOND = "5: 2000 for numbers out of range";
    private static final String ROWS = "6: row j (-300 to 300), 0 for another row";
    private static final String FROM_WIDTH_ON = "6: bit i 1 for pixel i, from width on 0";
    private static final String WHAT = "7: what 0 to 3";
    private static final String OTHERS = "7: refused for others";

    public static void main(String[] args) {
        widthIsClamped();
        newObjectHasNoContours();
        pointTellsHowManyItHas();
        pointOutOfRangeIsRefused();
        pointIsRefusedBeforeItIsFull();
        pointIsFull();
        closeTellsHowManyAreClosed();
        closeBeginsAnother();
        closeOfNoPoints();
        clearLeavesNothing();
        clearMakesRoom();
        clearTellsHowManyWereClosed();
        windingAmongTheClosed();
        windingOfManyTurns();
        windingOnCurve();
        windingBarelyOffCurve();
        windingBarelyOffLine();
        windingWhereNumbersWrap();
        windingOutOfRange();
        rowsInRange();
        rowsOutOfRange();
        rowIsCutAtTheWidth();
        countOfEach();
        countOfOthers();
        CHECK.end();
    }

    private static Run run(String sentence, int width) {
        return new Run(sentence, width);
    }

    /** The low bits of a row, up to all 64. */
    private static long pixels(int howMany) {
        return howMany == 64 ? -1L : (1L << howMany) - 1L;
    }

    private static void widthIsClamped() {
        int[] asked = {LEAST_INT, -64, -1, 0, 1, 2, 31, 32, 33, 63, 64, 65, 128, 1 << 16, MOST_INT};
        int[] width = {1, 1, 1, 1, 1, 2, 31, 32, 33, 63, 64, 64, 64, 64, 64};
        for (int k = 0; k < asked.length; k++) {
            run(CLAMPED, asked[k]).count(0, width[k])
                    .square(1, -20000, 20000).row(0, pixels(width[k])).count(0, width[k])
                    .clear(1).count(0, width[k]).play(CHECK);
        }
    }

    private static void newObjectHasNoContours() {
        for (int width : new int[] {LEAST_INT, 0, 1, 64, 65}) {
            run(NO_CONTOURS, width).counts(0, 0, 0).winding(0, 0, 0).winding(20000, -20000, 0)
                    .row(-300, 0).row(0, 0).row(300, 0).close(CurveScan.NONE).clear(0).play(CHECK);
        }
        run(NO_CONTOURS, 1).contour(1, 0, 0, 1).count(1, 1).winding(0, 0, 1000).play(CHECK);
    }

    private static void pointTellsHowManyItHas() {
        run(HOW_MANY, 1).point(1, 1, true, 1).point(1, 1, true, 2).point(20001, 1, true, CurveScan.REFUSED)
                .point(1, 1, false, 3).close(1).point(1, 1, false, 1).point(1, 1, true, 2).close(2)
                .close(CurveScan.NONE).point(1, 1, true, 1).clear(2).point(1, 1, false, 1).play(CHECK);
        run(HOW_MANY, 1).samePoints(1, 1, true, 1, MOST).play(CHECK);
        run(HOW_MANY, 1).samePoints(1, 1, true, 1, MOST - 1).close(1).point(1, 1, true, 1).play(CHECK);
    }

    /** A refused point leaves no trace, wherever it comes: among others, as the first, or behind a closed contour. */
    private static void pointOutOfRangeIsRefused() {
        for (int far : BEYOND) {
            int near = far < 0 ? -20000 : 20000;
            for (boolean on : new boolean[] {true, false}) {
                run(REFUSED, 1).point(far, 0, on, CurveScan.REFUSED).point(0, far, on, CurveScan.REFUSED)
                        .point(far, far, on, CurveScan.REFUSED).counts(0, 0, 0).close(CurveScan.NONE)
                        .point(0, 0, true, 1).point(far, near, on, CurveScan.REFUSED).point(100, 0, true, 2)
                        .point(near, far, on, CurveScan.REFUSED).point(0, 100, true, 3).counts(0, 3, 3).close(1)
                        .winding(50, 50, 1000).winding(49, 49, 1).winding(51, 51, 0).winding(near, near, 0)
                        .point(far, 0, on, CurveScan.REFUSED).counts(1, 3, 0).close(CurveScan.NONE)
                        .point(near, 0, on, 1).point(0, near, on, 2).point(near, near, on, 3).play(CHECK);
            }
        }
    }

    private static void pointIsRefusedBeforeItIsFull() {
        for (int far : new int[] {20001, -20001, MOST_INT, LEAST_INT}) {
            run(REFUSED, 1).samePoints(1, 1, true, 1, MOST - 1).point(far, 0, true, CurveScan.REFUSED)
                    .point(1, 1, true, MOST).point(far, 0, true, CurveScan.REFUSED)
                    .point(0, far, false, CurveScan.REFUSED).point(20000, -20000, true, CurveScan.FULL)
                    .point(-20000, 20000, false, CurveScan.FULL).close(1).point(far, far, true, CurveScan.REFUSED)
                    .point(20000, 20000, true, CurveScan.FULL).counts(1, MOST, 0).play(CHECK);
        }
    }

    private static void pointIsFull() {
        run(FULL, 1).samePoints(1, 1, true, 1, MOST).point(1, 1, true, CurveScan.FULL)
                .point(2, 2, false, CurveScan.FULL).counts(0, MOST, MOST).close(1).point(1, 1, true, CurveScan.FULL)
                .counts(1, MOST, 0).close(CurveScan.NONE).winding(1, 1, 1000).winding(2, 2, 0)
                .clear(1).point(1, 1, true, 1).play(CHECK);
        run(FULL, 1).samePoints(1, 1, true, 1, 200).close(1).samePoints(2, 2, true, 1, 56)
                .point(3, 3, true, CurveScan.FULL).counts(1, MOST, 56).close(2).point(3, 3, true, CurveScan.FULL)
                .counts(2, MOST, 0).play(CHECK);
        run(FULL, 1).samePoints(1, 1, true, 1, 200).clear(0).samePoints(2, 2, true, 1, MOST)
                .point(3, 3, true, CurveScan.FULL).play(CHECK);
    }

    private static void closeTellsHowManyAreClosed() {
        Run run = run(CLOSED, 1);
        for (int k = 1; k <= 128; k++) {
            run.contour(k, k, 0, k % 2, k, 1, 1);
        }
        run.point(0, 0, true, CurveScan.FULL).close(CurveScan.NONE).count(1, 128).play(CHECK);
        run(CLOSED, 1).contour(1, 0, 0, 1).contour(2, 0, 0, 1).clear(2).contour(1, 0, 0, 1).play(CHECK);
        run(CLOSED, 1).samePoints(1, 1, false, 1, MOST).close(1).count(1, 1).play(CHECK);
    }

    /** The points of two contours are no neighbours. */
    private static void closeBeginsAnother() {
        run(ANOTHER, 1).points(0, 0, 1, 100, 0, 1).counts(0, 2, 2).close(1).counts(1, 2, 0)
                .points(100, 100, 1, 0, 100, 1).counts(1, 4, 2).close(2).counts(2, 4, 0)
                .winding(50, 0, 1000).winding(50, 100, 1000).winding(100, 50, 0).winding(0, 50, 0)
                .winding(50, 50, 0).play(CHECK);
        run(ANOTHER, 1).contour(1, 0, 0, 1, 100, 0, 1, 100, 100, 1, 0, 100, 1)
                .winding(100, 50, 1000).winding(0, 50, 1000).winding(50, 50, 1).play(CHECK);
        run(ANOTHER, 1).contour(1, 0, 0, 0).contour(2, 100, 0, 0).winding(0, 0, 1000).winding(50, 0, 0).play(CHECK);
    }

    private static void closeOfNoPoints() {
        run(NONE, 1).close(CurveScan.NONE).close(CurveScan.NONE).counts(0, 0, 0)
                .point(0, 0, false, 1).close(1).close(CurveScan.NONE).counts(1, 1, 0).winding(0, 0, 1000)
                .point(0, 0, true, 1).clear(1).close(CurveScan.NONE).counts(0, 0, 0)
                .point(20001, 0, true, CurveScan.REFUSED).close(CurveScan.NONE).point(0, 0, true, 1).close(1)
                .play(CHECK);
        run(NONE, 1).samePoints(0, 0, true, 1, MOST).close(1).point(0, 0, true, CurveScan.FULL)
                .close(CurveScan.NONE).counts(1, MOST, 0).play(CHECK);
    }

    private static void clearLeavesNothing() {
        run(CLEAR, 8).square(1, 0, 512).points(-64, -64, 1, 600, -64, 1, 600, 600, 1).counts(1, 7, 3)
                .row(0, 255).winding(0, 0, 1000).clear(1).counts(0, 0, 0).row(0, 0).winding(0, 0, 0)
                .winding(100, 100, 0).close(CurveScan.NONE).winding(100, 100, 0).clear(0).play(CHECK);
        run(CLEAR, 8).points(0, 0, 1, 100, 0, 1).clear(0).counts(0, 0, 0).close(CurveScan.NONE)
                .contour(1, 100, 100, 1, 0, 100, 1).winding(50, 100, 1000).winding(50, 50, 0).winding(50, 0, 0)
                .play(CHECK);
        run(CLEAR, 8).clear(0).clear(0).counts(0, 0, 0).square(1, 0, 512).row(7, 255).row(8, 0).play(CHECK);
    }

    private static void clearMakesRoom() {
        run(CLEAR, 1).samePoints(1, 1, true, 1, 254).clear(0).samePoints(2, 2, true, 1, MOST)
                .point(2, 2, true, CurveScan.FULL).play(CHECK);
        run(CLEAR, 1).samePoints(1, 1, true, 1, MOST).point(1, 1, true, CurveScan.FULL).close(1).clear(1)
                .samePoints(2, 2, true, 1, 240).close(1).counts(1, 240, 0).winding(1, 1, 0).winding(2, 2, 1000)
                .play(CHECK);
    }

    private static void clearTellsHowManyWereClosed() {
        Run run = run(WERE, 1);
        for (int k = 1; k <= 255; k++) {
            run.point(k, 0, true, 1).close(k);
        }
        run.clear(255).clear(0).play(CHECK);
        run(WERE, 1).clear(0).point(0, 0, true, 1).clear(0).point(0, 0, true, 1).close(1).clear(1)
                .contour(1, 0, 0, 1).contour(2, 0, 0, 1).point(5, 5, true, 1).clear(2).clear(0).play(CHECK);
    }

    private static void windingAmongTheClosed() {
        run(AMONG, 1).points(0, 0, 1, 100, 0, 1, 100, 100, 1, 0, 100, 1).winding(50, 50, 0).winding(0, 0, 0).row(0, 0)
                .close(1).winding(50, 50, 1).winding(0, 0, 1000).row(0, 1)
                .points(0, 0, 1, 0, 100, 1, 100, 100, 1, 100, 0, 1).winding(50, 50, 1).row(0, 1)
                .close(2).winding(50, 50, 0).winding(0, 0, 1000).row(0, 0).play(CHECK);
    }

    /** A star of 255 points that are on, or not, goes 127 times round its centre; one way and the other. */
    private static void windingOfManyTurns() {
        for (int way : new int[] {1, -1}) {
            for (boolean on : new boolean[] {true, false}) {
                Run run = run(AMONG, 1);
                for (int k = 0; k < 255; k++) {
                    double angle = way * 2 * StrictMath.PI * (127 * k % 255) / 255;
                    int x = (int) StrictMath.rint(20000 * StrictMath.cos(angle));
                    int y = (int) StrictMath.rint(20000 * StrictMath.sin(angle));
                    run.point(x, y, on, k + 1);
                }
                run.close(1).winding(0, 0, 127 * way).winding(20000, 0, on ? 1000 : 0).winding(20000, 20000, 0)
                        .point(0, 0, true, 1).winding(0, 0, 127 * way).close(2).winding(0, 0, 1000).play(CHECK);
            }
        }
    }

    private static void windingOnCurve() {
        run(ON_CURVE, 1).points(0, 0, 1, 100, 0, 0, 100, 100, 1).winding(75, 25, 0).close(1)
                .winding(75, 25, 1000).winding(74, 25, 1).winding(76, 25, 0).winding(75, 24, 0).winding(75, 26, 1)
                .winding(100, 0, 0).clear(1).winding(75, 25, 0).play(CHECK);
        run(ON_CURVE, 1).square(1, 0, 100).square(2, -100, 200)
                .squareBackwards(3, -100, 200).squareBackwards(4, 50, 300)
                .winding(50, 70, 1000).winding(51, 70, 0).winding(49, 70, 1).winding(200, 70, 1000)
                .winding(201, 70, -1).winding(199, 70, -1).winding(300, 300, 1000).winding(301, 300, 0).play(CHECK);
        run(ON_CURVE, 1).contour(1, -20000, -20000, 1, 20000, -20000, 0, 20000, 20000, 1)
                .winding(-12400, -19600, 1000).winding(-12400, -19601, 0).winding(-12400, -19599, 1)
                .winding(19600, 12400, 1000).winding(19601, 12400, 0).winding(19599, 12400, 1).play(CHECK);
    }

    /**
     * Places that a curve passes by less than 2^-30 of a unit: the products that tell its sides differ by 4 at some
     * 10^17, so that doubles take them for equal; in the last two of those outside by 15876, across a multiple of
     * 2^15, so that no bit of a product may get lost. Start, bend, end and place, two numbers each.
     */
    private static void windingBarelyOffCurve() {
        int[][] outside = {
                {-4376, 19415, -10893, -14245, 17926, -7282, 0, -6000},
                {10000, 19302, -9300, -3685, 8649, -17290, 0, -2000},
                {-8468, -19686, 11994, 10493, -16883, 13890, 0, 0},
                {17454, 8813, -9641, 18612, -2386, -19035, 0, 8000},
                {10062, 5573, -15541, -4151, 14086, -14814, 0, 0}};
        int[][] inside = {
                {19463, -19975, 7311, 18388, -16439, -15089, 0, 0},
                {-17298, -15250, 18207, 12550, -16126, 19743, -2000, 0},
                {-18330, -15673, 18347, -13331, 15042, 18849, 6000, -8000}};
        for (int[] numbers : outside) {
            barelyOffCurve(numbers, 0);
        }
        for (int[] numbers : inside) {
            barelyOffCurve(numbers, 1);
        }
    }

    private static void barelyOffCurve(int[] c, int want) {
        run(ON_CURVE, 1).contour(1, c[0], c[1], 1, c[2], c[3], 0, c[4], c[5], 1).winding(c[6], c[7], want)
                .clear(1).contour(1, c[4], c[5], 1, c[2], c[3], 0, c[0], c[1], 1).winding(c[6], c[7], -want)
                .play(CHECK);
    }

    /** The long side passes the places by a 56000th of a unit. */
    private static void windingBarelyOffLine() {
        run(ON_CURVE, 1).contour(1, -20000, -20000, 1, 20000, -20000, 1, 19999, 20000, 1)
                .winding(-19999, -19999, 1).winding(-20000, -20000, 1000).winding(19998, 19999, 0)
                .winding(19999, 20000, 1000).clear(1)
                .contour(1, -20000, -20000, 1, 19999, 20000, 1).winding(-19999, -19999, 0).winding(19998, 19999, 0)
                .winding(19999, 20000, 1000).play(CHECK);
    }

    /** Areas beyond 32 bits, and squares of areas beyond 63, on each side of a wide curve and of a wide fold. */
    private static void windingWhereNumbersWrap() {
        run(ON_CURVE, 1).contour(1, -20000, -20000, 1, 20000, -20000, 0, 20000, 20000, 1)
                .winding(12000, -12000, 0).winding(8000, -8000, 1).winding(10000, -10000, 1000)
                .winding(10001, -10001, 0).winding(9999, -9999, 1).winding(19999, -19999, 0).winding(1, -1, 1)
                .winding(20000, -20000, 0).play(CHECK);
        run(ON_CURVE, 1).contour(1, -20000, 0, 1, 20000, 0, 0).winding(0, 0, 1000).winding(1, 0, 0)
                .winding(-5000, 0, 1000).winding(5000, 0, 0).winding(20000, 0, 0).winding(-20000, 0, 1000).play(CHECK);
        run(ON_CURVE, 1).contour(1, 20000, -20000, 1, -20000, 20000, 0).winding(0, 0, 1000).winding(-1, 1, 0)
                .winding(5000, -5000, 1000).winding(-5000, 5000, 0).winding(-20000, 20000, 0)
                .winding(20000, -20000, 1000).play(CHECK);
    }

    private static void windingOutOfRange() {
        for (int far : BEYOND) {
            int near = far < 0 ? -20000 : 20000;
            run(PLACE_BEYOND, 1).winding(far, 0, 2000).winding(0, far, 2000).winding(near, 0, 0).winding(0, near, 0)
                    .square(1, -20000, 20000)
                    .winding(far, 0, 2000).winding(0, far, 2000).winding(far, far, 2000).winding(far, near, 2000)
                    .winding(near, far, 2000).winding(near, 0, 1000).winding(0, near, 1000).winding(near, near, 1000)
                    .winding(near - near / 20000, 0, 1).counts(1, 4, 0).play(CHECK);
        }
    }

    private static void rowsInRange() {
        Run run = run(ROWS, 3).square(1, -20000, 20000);
        for (int j : new int[] {-300, -299, -298, -1, 0, 1, 298, 299, 300}) {
            run.row(j, 0b111);
        }
        run.row(-301, 0).row(301, 0).play(CHECK);
        // Of these places only those of row -300 and row 300 may be told, though the others are in as well.
        run(ROWS, 3).contour(1, 32, 64 * 300 + 32, 1).contour(2, 32, 64 * 301 + 32, 1)
                .contour(3, 96, 64 * -300 + 32, 1).contour(4, 96, 64 * -301 + 32, 1)
                .row(300, 0b01).row(301, 0).row(-300, 0b10).row(-301, 0)
                .winding(32, 64 * 301 + 32, 1000).winding(96, 64 * -301 + 32, 1000).play(CHECK);
    }

    private static void rowsOutOfRange() {
        for (int j : new int[] {301, 302, 311, 312, 313, 20000}) {
            run(ROWS, 64).row(j, 0).row(-j, 0).square(1, -20000, 20000).row(j, 0).row(-j, 0)
                    .row(300, -1L).row(-300, -1L).play(CHECK);
        }
        for (int j : BEYOND) {
            run(ROWS, 64).row(j, 0).square(1, -20000, 20000).row(j, 0).row(0, -1L).row(j, 0).play(CHECK);
        }
    }

    private static void rowIsCutAtTheWidth() {
        for (int width : new int[] {1, 2, 31, 32, 33, 62, 63, 64}) {
            Run run = run(FROM_WIDTH_ON, width).square(1, -20000, 20000).row(0, pixels(width)).row(-300, pixels(width))
                    .clear(1);
            int last = 64 * (width - 1) + 32;
            run.contour(1, last, 32, 1).row(0, 1L << (width - 1)).contour(2, last + 64, 32, 1)
                    .row(0, 1L << (width - 1)).contour(3, -32, 32, 1).row(0, 1L << (width - 1))
                    .contour(4, last + 64, -500, 1, last + 900, -500, 1, last + 900, 500, 1, last + 64, 500, 1)
                    .row(0, 1L << (width - 1)).row(1, 0).winding(last + 128, 96, 1).play(CHECK);
        }
    }

    private static void countOfEach() {
        run(WHAT, 7).counts(0, 0, 0).point(1, 1, true, 1).counts(0, 1, 1).point(1, 1, false, 2).counts(0, 2, 2)
                .close(1).counts(1, 2, 0).point(1, 1, true, 1).counts(1, 3, 1).close(2).counts(2, 3, 0)
                .close(CurveScan.NONE).counts(2, 3, 0).point(0, 20001, true, CurveScan.REFUSED).counts(2, 3, 0)
                .point(1, 1, true, 1).counts(2, 4, 1).clear(2).counts(0, 0, 0).play(CHECK);
        run(WHAT, 64).samePoints(1, 1, true, 1, 255).counts(0, 255, 255).point(1, 1, true, MOST)
                .counts(0, MOST, MOST).point(1, 1, true, CurveScan.FULL).counts(0, MOST, MOST).close(1)
                .counts(1, MOST, 0).play(CHECK);
    }

    private static void countOfOthers() {
        Run run = run(OTHERS, 7).square(1, 0, 64).point(1, 1, true, 1);
        for (int what : new int[] {-1, -2, -3, 4, 5, 64, 256, 1 << 30, MOST_INT, -(1 << 30), LEAST_INT}) {
            run.count(what, CurveScan.REFUSED);
        }
        run.count(0, 7).count(-1, CurveScan.REFUSED).count(3, 1).count(4, CurveScan.REFUSED).counts(1, 5, 1)
                .play(CHECK);
    }
}
