/** Each promise by hand: ordinary inputs, the edges that the document names, and wrong inputs. */
public final class PromiseTest {
    private static final Check CHECK = new Check();
    private static final int[] BEYOND = {20001, -20001, Integer.MAX_VALUE, Integer.MIN_VALUE};

    public static void main(String[] args) {
        newObject();
        point();
        pointIsFull();
        close();
        clear();
        clearForgetsWhatIsMadeUp();
        windingOfLines();
        windingOfCurves();
        windingAddsUp();
        windingOnChords();
        windingOfSmallContours();
        windingOfFoldedCurves();
        windingOutOfRange();
        windingAtTheEdges();
        row();
        rowOfFullWidth();
        rowsAtTheEdges();
        count();
        objectsAreApart();
        CHECK.end();
    }

    private static void due(String call, long got, long want) {
        CHECK.due(call, got, want);
    }

    /** Adds points of three numbers each: x, y and 1 for on; then closes. */
    private static void contour(CurveScan scan, int... numbers) {
        for (int k = 0; k < numbers.length; k += 3) {
            scan.point(numbers[k], numbers[k + 1], numbers[k + 2] == 1);
        }
        scan.close();
    }

    private static void square(CurveScan scan, int low, int high) {
        contour(scan, low, low, 1, high, low, 1, high, high, 1, low, high, 1);
    }

    private static void newObject() {
        int[] asked = {1, 2, 63, 64, 65, 0, -1, Integer.MAX_VALUE, Integer.MIN_VALUE};
        int[] width = {1, 2, 63, 64, 64, 1, 1, 64, 1};
        for (int k = 0; k < asked.length; k++) {
            CurveScan scan = new CurveScan(asked[k]);
            due("1: count(0) of width " + asked[k], scan.count(0), width[k]);
            due("1: count(1)", scan.count(1), 0);
            due("1: count(2)", scan.count(2), 0);
            due("1: count(3)", scan.count(3), 0);
            due("1: row(0)", scan.row(0), 0);
            due("1: winding(0, 0)", scan.winding(0, 0), 0);
        }
    }

    private static void point() {
        CurveScan scan = new CurveScan(4);
        due("2: first", scan.point(0, 0, true), 1);
        due("2: the same again", scan.point(0, 0, true), 2);
        due("2: lowest", scan.point(-20000, -20000, false), 3);
        due("2: highest", scan.point(20000, 20000, false), 4);
        for (int far : BEYOND) {
            due("2: x " + far, scan.point(far, 0, true), CurveScan.REFUSED);
            due("2: y " + far, scan.point(0, far, false), CurveScan.REFUSED);
        }
        due("2: refused points do not count", scan.count(2), 4);
        due("2: next", scan.point(1, 1, true), 5);
        scan.close();
        due("2: counts anew in the next contour", scan.point(1, 1, true), 1);
    }

    private static void pointIsFull() {
        CurveScan scan = new CurveScan(4);
        for (int k = 1; k <= 100; k++) {
            due("2: point " + k, scan.point(k, 0, true), k);
        }
        scan.close();
        for (int k = 1; k <= 156; k++) {
            due("2: point " + (100 + k), scan.point(k, 1, k % 2 == 0), k);
        }
        due("2: point 257", scan.point(0, 0, true), CurveScan.FULL);
        due("2: point 257, out of range", scan.point(0, 20001, true), CurveScan.REFUSED);
        due("2: points in all", scan.count(2), 256);
        due("2: points made up", scan.count(3), 156);
        due("3: close when full", scan.close(), 2);
        due("2: still full when closed", scan.point(0, 0, false), CurveScan.FULL);
        due("3: nothing to close", scan.close(), CurveScan.NONE);
        due("4: clear when full", scan.clear(), 2);
        due("2: room again", scan.point(0, 0, false), 1);
    }

    private static void close() {
        CurveScan scan = new CurveScan(4);
        due("3: no points", scan.close(), CurveScan.NONE);
        due("3: none closed", scan.count(1), 0);
        scan.point(0, 0, true);
        due("3: the first", scan.close(), 1);
        due("3: no points again", scan.close(), CurveScan.NONE);
        due("3: one closed", scan.count(1), 1);
        due("3: its points stay", scan.count(2), 1);
        due("3: another is begun", scan.count(3), 0);
        scan.point(20001, 0, true);
        due("3: a refused point is none", scan.close(), CurveScan.NONE);
        scan.point(0, 0, false);
        due("3: the second", scan.close(), 2);
    }

    private static void clear() {
        CurveScan scan = new CurveScan(10);
        due("4: nothing yet", scan.clear(), 0);
        square(scan, 0, 640);
        square(scan, 64, 320);
        due("4: two closed", scan.clear(), 2);
        due("4: again", scan.clear(), 0);
        due("4: winding", scan.winding(100, 100), 0);
        due("4: row", scan.row(2), 0);
        due("4: width stays", scan.count(0), 10);
        due("4: contours", scan.count(1), 0);
        due("4: points", scan.count(2), 0);
        square(scan, 0, 640);
        due("4: used again", scan.winding(100, 100), 1);
        due("4: contours again", scan.count(1), 1);
    }

    private static void clearForgetsWhatIsMadeUp() {
        CurveScan scan = new CurveScan(10);
        scan.point(0, 0, true);
        scan.point(640, 0, true);
        due("4: made up alone", scan.clear(), 0);
        due("4: points made up", scan.count(3), 0);
        due("4: points in all", scan.count(2), 0);
        due("4: nothing to close", scan.close(), CurveScan.NONE);
        due("4: first point again", scan.point(5, 5, true), 1);
    }

    private static void windingOfLines() {
        CurveScan scan = new CurveScan(10);
        scan.point(0, 0, true);
        scan.point(100, 0, true);
        scan.point(0, 300, true);
        due("5: not closed yet", scan.winding(10, 10), 0);
        due("5: not on what is not closed", scan.winding(0, 0), 0);
        scan.close();
        due("5: inside", scan.winding(10, 10), 1);
        due("5: corner", scan.winding(100, 0), 1000);
        due("5: on the slope", scan.winding(50, 150), 1000);
        due("5: beside the slope, in", scan.winding(49, 150), 1);
        due("5: beside the slope, out", scan.winding(51, 150), 0);
        due("5: level with a corner, left", scan.winding(-1, 300), 0);
        due("5: level with a corner, right", scan.winding(1, 300), 0);
        due("5: level with a side, left", scan.winding(-1, 0), 0);
        due("5: level with a side, right", scan.winding(101, 0), 0);
        scan.clear();
        contour(scan, 0, 300, 1, 100, 0, 1, 0, 0, 1);
        due("5: the other way round", scan.winding(10, 10), -1);
    }

    private static void windingOfCurves() {
        CurveScan scan = new CurveScan(10);
        contour(scan, 0, 0, 1, 200, 0, 0, 200, 200, 1);
        due("5: the middle of the curve", scan.winding(150, 50), 1000);
        due("5: a step inwards", scan.winding(149, 50), 1);
        due("5: a step outwards", scan.winding(151, 50), 0);
        due("5: the bend is off the curve", scan.winding(200, 0), 0);
        due("5: the chord closes it", scan.winding(100, 100), 1000);
        scan.clear();
        contour(scan, 1, 0, 0, 4, 3, 0, 8, 1, 1, 4, -8, 1);
        due("5: a middle of halves is kept", scan.winding(2, 1), 0);
        scan.clear();
        contour(scan, 0, 0, 1, 0, 100, 0, 100, 100, 0, 100, 0, 1);
        due("5: the middle of two that are not on", scan.winding(50, 100), 1000);
        due("5: above it", scan.winding(50, 99), -1);
        due("5: below it", scan.winding(50, 101), 0);
    }

    private static void windingAddsUp() {
        CurveScan scan = new CurveScan(10);
        square(scan, 0, 640);
        square(scan, 0, 640);
        square(scan, 64, 320);
        due("5: three times round", scan.winding(100, 100), 3);
        due("5: twice round", scan.winding(500, 500), 2);
        contour(scan, 0, 0, 1, 0, 640, 1, 640, 640, 1, 640, 0, 1);
        due("5: one taken off", scan.winding(500, 500), 1);
        scan.clear();
        contour(scan, 0, 0, 1, 64, 0, 1, 64, 64, 1, 0, 64, 1, 0, 0, 1, 64, 0, 1, 64, 64, 1, 0, 64, 1);
        due("5: one contour that goes round twice", scan.winding(32, 32), 2);
        scan.clear();
        contour(scan, 0, 0, 1, 100, 100, 1, 100, 0, 1, 0, 100, 1);
        due("5: the right half of an eight", scan.winding(90, 50), -1);
        due("5: the left half of an eight", scan.winding(10, 50), 1);
        due("5: where an eight crosses", scan.winding(50, 50), 1000);
    }

    /** A place between the ends of a curve is on no curve, though it is on the line between these ends. */
    private static void windingOnChords() {
        int[][] bends = {{50, 100}, {50, -100}};
        for (int[] bend : bends) {
            CurveScan scan = new CurveScan(10);
            contour(scan, 0, 0, 1, bend[0], bend[1], 0, 100, 0, 1, 50, -bend[1], 0);
            int want = bend[1] > 0 ? -1 : 1;
            due("5: on a level chord", scan.winding(50, 0), want);
            due("5: beside it", scan.winding(50, 1), want);
            due("5: beyond it, right", scan.winding(101, 0), 0);
            due("5: beyond it, left", scan.winding(-1, 0), 0);
            scan.clear();
            contour(scan, 0, 0, 1, bend[1], bend[0], 0, 0, 100, 1, -bend[1], 50, 0);
            due("5: on an upright chord", scan.winding(0, 50), -want);
            due("5: beside an upright chord", scan.winding(1, 50), -want);
            scan.clear();
            contour(scan, 0, 0, 1, bend[1], 0, 0, 100, 100, 1, 0, bend[1], 0);
            due("5: on a slanted chord", scan.winding(50, 50), -want);
        }
    }

    private static void windingOfSmallContours() {
        for (int on = 0; on <= 1; on++) {
            CurveScan scan = new CurveScan(10);
            contour(scan, -7, 9, on);
            due("5: a point alone", scan.winding(-7, 9), 1000);
            due("5: left of it", scan.winding(-8, 9), 0);
            due("5: right of it", scan.winding(-6, 9), 0);
            due("5: above it", scan.winding(-7, 8), 0);
            due("5: below it", scan.winding(-7, 10), 0);
        }
        CurveScan scan = new CurveScan(10);
        contour(scan, 0, 0, 1, 30, 20, 1);
        due("5: a line there and back", scan.winding(15, 10), 1000);
        due("5: its end", scan.winding(30, 20), 1000);
        due("5: beyond its end", scan.winding(33, 22), 0);
        due("5: before its start", scan.winding(-3, -2), 0);
        due("5: beside it", scan.winding(14, 10), 0);
        scan.clear();
        contour(scan, 0, 0, 0, 80, 40, 0);
        due("5: two that are not on: their middle", scan.winding(40, 20), 1000);
        due("5: two that are not on: as far as it comes", scan.winding(20, 10), 1000);
        due("5: as far on the other side", scan.winding(60, 30), 1000);
        due("5: too far", scan.winding(18, 9), 0);
        due("5: too far on the other side", scan.winding(62, 31), 0);
        scan.clear();
        contour(scan, 5, 5, 0, 5, 5, 1, 5, 5, 0);
        due("5: all in one place", scan.winding(5, 5), 1000);
        due("5: beside that place", scan.winding(5, 6), 0);
        scan.clear();
        contour(scan, 0, 0, 0, 60, 0, 0, 0, 60, 0);
        due("5: three that are not on", scan.winding(20, 20), 1);
        due("5: it passes their middle", scan.winding(30, 30), 1000);
        due("5: begins between last and first", scan.winding(0, 30), 1000);
        due("5: not at the first", scan.winding(0, 0), 0);
    }

    private static void windingOfFoldedCurves() {
        CurveScan scan = new CurveScan(10);
        contour(scan, 0, 0, 1, 40, 80, 0, 0, 0, 1);
        due("5: a fold's tip", scan.winding(20, 40), 1000);
        due("5: beyond a fold's tip", scan.winding(21, 42), 0);
        due("5: before a fold's tip", scan.winding(19, 38), 1000);
        scan.clear();
        contour(scan, 0, 0, 1, -30, 0, 0, 90, 0, 1);
        due("5: drawn back behind its start", scan.winding(-6, 0), 1000);
        due("5: not so far", scan.winding(-7, 0), 0);
        scan.clear();
        contour(scan, 0, 90, 1, 0, -30, 0, 0, 0, 1);
        due("5: drawn past its end", scan.winding(0, -6), 1000);
        due("5: not so far past", scan.winding(0, -7), 0);
        due("5: not beside it", scan.winding(1, -6), 0);
    }

    private static void windingOutOfRange() {
        CurveScan scan = new CurveScan(10);
        contour(scan, -20000, -20000, 1, 20000, -20000, 1, 20000, 20000, 1, -20000, 20000, 1);
        for (int far : BEYOND) {
            due("5: x " + far, scan.winding(far, 0), 2000);
            due("5: y " + far, scan.winding(0, far), 2000);
        }
        due("5: highest", scan.winding(20000, 20000), 1000);
        due("5: lowest", scan.winding(-20000, -20000), 1000);
        due("5: just in", scan.winding(19999, -19999), 1);
        due("5: empty, out of range", new CurveScan(1).winding(20001, 20001), 2000);
        due("5: empty, in range", new CurveScan(1).winding(20000, -20000), 0);
    }

    /** The largest numbers: what decides here needs more than 64 bits. */
    private static void windingAtTheEdges() {
        CurveScan scan = new CurveScan(10);
        contour(scan, -20000, -20000, 1, 20000, -20000, 0, 20000, 20000, 1);
        due("5: wide, on", scan.winding(10000, -10000), 1000);
        due("5: wide, in", scan.winding(9999, -10000), 1);
        due("5: wide, out", scan.winding(10001, -10000), 0);
        due("5: wide, on at a tenth", scan.winding(-12400, -19600), 1000);
        due("5: wide, over a tenth", scan.winding(-12400, -19601), 0);
        due("5: wide, under a tenth", scan.winding(-12400, -19599), 1);
        scan.clear();
        contour(scan, -20000, 20000, 1, 0, -20000, 0, 20000, 20000, 1);
        due("5: wide arch, top", scan.winding(0, 0), 1000);
        due("5: wide arch, below the top", scan.winding(0, 1), 1);
        due("5: wide arch, above the top", scan.winding(0, -1), 0);
    }

    private static void row() {
        CurveScan scan = new CurveScan(10);
        contour(scan, 96, 0, 1, 352, 0, 1, 352, 224, 1, 96, 224, 1);
        due("6: sides through centres count", scan.row(0), 0b111110);
        due("6: an end through centres counts", scan.row(3), 0b111110);
        due("6: beyond", scan.row(4), 0);
        due("6: before", scan.row(-1), 0);
        square(scan, 640, 1280);
        due("6: nothing from width on", scan.row(10), 0);
        scan.clear();
        contour(scan, -1000, 0, 1, 3000, 0, 1, 3000, 64, 1, -1000, 64, 1);
        due("6: all of the width", scan.row(0), 1023);
        contour(scan, 200, 0, 1, 200, 64, 1, 280, 64, 1, 280, 0, 1);
        due("6: winding 0 is out", scan.row(0), 0b1111110111);
        contour(scan, 224, 32, 0);
        due("6: a point alone is in", scan.row(0), 1023);
        scan.clear();
        contour(scan, 0, 0, 1, 0, 64, 1, 640, 64, 1, 640, 0, 1);
        due("6: winding -1 is in", scan.row(0), 1023);
        scan.clear();
        scan.point(0, 0, true);
        scan.point(640, 0, true);
        scan.point(640, 640, true);
        due("6: what is not closed is not there", scan.row(0), 0);
        scan.close();
        due("6: the diagonal is in", scan.row(3), 0b1111111000);
        due("6: on a curve and round it", scan.row(0), 1023);
    }

    private static void rowOfFullWidth() {
        CurveScan scan = new CurveScan(64);
        contour(scan, -100, 0, 1, 5000, 0, 1, 5000, 64, 1, -100, 64, 1);
        due("6: 64 pixels", scan.row(0), -1L);
        scan.clear();
        contour(scan, 4064, 32, 1);
        due("6: the last pixel alone", scan.row(0), Long.MIN_VALUE);
        CurveScan narrow = new CurveScan(1);
        contour(narrow, -100, 0, 1, 5000, 0, 1, 5000, 64, 1, -100, 64, 1);
        due("6: one pixel", narrow.row(0), 1);
    }

    private static void rowsAtTheEdges() {
        CurveScan scan = new CurveScan(5);
        square(scan, -20000, 20000);
        int[] rows = {-300, -299, -1, 0, 299, 300};
        for (int j : rows) {
            due("6: row " + j, scan.row(j), 31);
        }
        int[] others = {-301, 301, 1 << 26, -(1 << 26), Integer.MAX_VALUE, Integer.MIN_VALUE};
        for (int j : others) {
            due("6: row " + j, scan.row(j), 0);
        }
    }

    private static void count() {
        CurveScan scan = new CurveScan(7);
        square(scan, 0, 64);
        scan.point(1, 1, true);
        scan.point(2, 2, false);
        due("7: width", scan.count(0), 7);
        due("7: contours closed", scan.count(1), 1);
        due("7: points in all", scan.count(2), 6);
        due("7: points made up", scan.count(3), 2);
        int[] others = {-1, 4, Integer.MAX_VALUE, Integer.MIN_VALUE};
        for (int what : others) {
            due("7: what " + what, scan.count(what), CurveScan.REFUSED);
        }
    }

    /** Calls on one object, made or used between those on another, change nothing there. */
    private static void objectsAreApart() {
        CurveScan first = new CurveScan(3);
        first.point(0, 0, true);
        CurveScan second = new CurveScan(5);
        due("1: a new object beside another", second.count(2), 0);
        due("3: nothing to close beside another", second.close(), CurveScan.NONE);
        due("2: the other goes on", first.point(320, 0, true), 2);
        square(second, 0, 640);
        due("2: and on", first.point(320, 320, true), 3);
        due("3: its first", first.close(), 1);
        due("5: the first's winding", first.winding(100, 200), 0);
        due("5: the second's winding", second.winding(100, 200), 1);
        due("6: the first's row", first.row(1), 0b110);
        due("6: the second's row", second.row(1), 0b11111);
        due("4: the first cleared", first.clear(), 1);
        due("7: the first's points", first.count(2), 0);
        due("7: the second's points", second.count(2), 4);
        due("5: the second's curve", second.winding(640, 640), 1000);
    }
}
