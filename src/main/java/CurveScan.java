import java.util.ArrayList;
import java.util.Arrays;

/**
 * Closed contours of lines and quadratic curves on a grid, and which pixels lie in them: without rounding.
 *
 * Points come in 64ths of a pixel. Inside, everything is held in 128ths, so that the middle of two points is
 * always a whole number.
 */
public final class CurveScan {
    public static final int REFUSED = -1, NONE = -2, FULL = -3;

    private static final int REACH = 20000;
    private static final int MOST_POINTS = 256;
    private static final int MOST_WIDTH = 64;
    private static final int LAST_ROW = 300;
    private static final int ON_CURVE = 1000;
    private static final int OUT_OF_RANGE = 2000;
    private static final int PIXEL = 128;
    private static final int HALF_PIXEL = 64;

    private final int width;
    private final int[] pointX;
    private final int[] pointY;
    private final boolean[] pointOn;
    private final int[] rowTurns;
    private final ArrayList<Arc> arcs;
    private int made;
    private int closedPoints;
    private int closedContours;

    public CurveScan(int width) {
        this.width = Math.max(1, Math.min(MOST_WIDTH, width));
        pointX = new int[MOST_POINTS];
        pointY = new int[MOST_POINTS];
        pointOn = new boolean[MOST_POINTS];
        rowTurns = new int[MOST_WIDTH];
        arcs = new ArrayList<>();
    }

    public int point(int x, int y, boolean on) {
        if (!inReach(x) || !inReach(y)) {
            return REFUSED;
        }
        if (closedPoints + made >= MOST_POINTS) {
            return FULL;
        }
        pointX[made] = x;
        pointY[made] = y;
        pointOn[made] = on;
        made++;
        return made;
    }

    public int close() {
        if (made == 0) {
            return NONE;
        }
        for (int i = 0; i < made; i++) {
            addArcOf(i);
        }
        closedPoints += made;
        made = 0;
        closedContours++;
        return closedContours;
    }

    public int clear() {
        int were = closedContours;
        arcs.clear();
        made = 0;
        closedPoints = 0;
        closedContours = 0;
        return were;
    }

    public int winding(int x, int y) {
        if (!inReach(x) || !inReach(y)) {
            return OUT_OF_RANGE;
        }
        int turns = 0;
        for (int k = 0; k < arcs.size(); k++) {
            int part = arcs.get(k).turnsAround(2 * x, 2 * y);
            if (part == ON_CURVE) {
                return ON_CURVE;
            }
            turns += part;
        }
        return turns;
    }

    public long row(int j) {
        if (j < -LAST_ROW || j > LAST_ROW) {
            return 0L;
        }
        int y = PIXEL * j + HALF_PIXEL;
        long in = 0L;
        Arrays.fill(rowTurns, 0);
        for (int k = 0; k < arcs.size(); k++) {
            Arc arc = arcs.get(k);
            if (arc.mayMeetHeight(y)) {
                in |= addRowTurns(arc, y);
            }
        }
        for (int i = 0; i < width; i++) {
            if (rowTurns[i] != 0) {
                in |= 1L << i;
            }
        }
        return in;
    }

    public int count(int what) {
        switch (what) {
            case 0:
                return width;
            case 1:
                return closedContours;
            case 2:
                return closedPoints + made;
            case 3:
                return made;
            default:
                return REFUSED;
        }
    }

    private static boolean inReach(int number) {
        return number >= -REACH && number <= REACH;
    }

    /**
     * Every point that is not on bends an arc of its own, and every point that is on begins a line if the next
     * one is on too: so a contour has at most as many arcs as points.
     */
    private void addArcOf(int i) {
        int before = i == 0 ? made - 1 : i - 1;
        int after = i + 1 == made ? 0 : i + 1;
        if (!pointOn[i]) {
            arcs.add(new Arc(joint(pointX, before, i), joint(pointY, before, i), 2 * pointX[i], 2 * pointY[i],
                    joint(pointX, after, i), joint(pointY, after, i)));
        } else if (pointOn[after]) {
            // A bend that lies on the start leaves the arc straight.
            arcs.add(new Arc(2 * pointX[i], 2 * pointY[i], 2 * pointX[i], 2 * pointY[i],
                    2 * pointX[after], 2 * pointY[after]));
        }
    }

    /** Where, along one axis, the arc of a point that is not on meets its neighbour's part of the contour. */
    private int joint(int[] along, int neighbour, int bend) {
        return pointOn[neighbour] ? 2 * along[neighbour] : along[neighbour] + along[bend];
    }

    /** Adds what the arc turns round each pixel's centre; answers the pixels whose centre is on it. */
    private long addRowTurns(Arc arc, int y) {
        long on = 0L;
        for (int i = 0; i < width; i++) {
            int part = arc.turnsAround(PIXEL * i + HALF_PIXEL, y);
            if (part == ON_CURVE) {
                on |= 1L << i;
            } else {
                rowTurns[i] += part;
            }
        }
        return on;
    }

    /** The curve (1 - t)^2 start + 2 t (1 - t) bend + t^2 end, t from 0 to 1, in 128ths of a pixel. */
    private static final class Arc {
        private static final int LOW_BITS = 20;
        private static final long LOW_MASK = (1L << LOW_BITS) - 1;

        private final int startX;
        private final int startY;
        private final int bendX;
        private final int bendY;
        private final int endX;
        private final int endY;

        Arc(int startX, int startY, int bendX, int bendY, int endX, int endY) {
            this.startX = startX;
            this.startY = startY;
            this.bendX = bendX;
            this.bendY = bendY;
            this.endX = endX;
            this.endY = endY;
        }

        boolean mayMeetHeight(int y) {
            return y >= Math.min(startY, Math.min(bendY, endY)) && y <= Math.max(startY, Math.max(bendY, endY));
        }

        /**
         * ON_CURVE if the place is on the arc, else the arc's share (-1, 0 or 1) of the winding of its contour.
         *
         * The share is that of the chord from start to end, and that of the loop that goes along the arc and back
         * along the chord. Both are taken for the place moved by (d, -e), e far smaller than d and d than
         * anything else: so the place is never on a chord, and where it is on no arc, moving it changes no winding.
         */
        int turnsAround(int x, int y) {
            if (!mayMeetHeight(y) || x > Math.max(startX, Math.max(bendX, endX))) {
                return 0;
            }
            long atStart = turn(bendX - x, bendY - y, endX - x, endY - y);
            long atBend = turn(endX - x, endY - y, startX - x, startY - y);
            long atEnd = turn(startX - x, startY - y, bendX - x, bendY - y);
            int bent = Long.compare(atStart + atBend + atEnd, 0L);
            int chordSide = sideOfChord(atBend);
            int share = chordShare(chordSide, y);
            if (bent == 0) {
                boolean onLine = atStart == 0L && atBend == 0L && atEnd == 0L;
                return onLine && onStraightArc(x, y) ? ON_CURVE : share;
            }
            if (bent * atStart < 0L || bent * atBend < 0L || bent * atEnd < 0L) {
                return share;
            }
            int toCurve = compareProducts(Math.abs(atBend), Math.abs(atBend),
                    4L * Math.abs(atStart), Math.abs(atEnd));
            if (toCurve == 0) {
                return ON_CURVE;
            }
            return toCurve < 0 && chordSide == bent ? share + bent : share;
        }

        /** Twice the area of the triangle of the place and two corners, which are told as seen from the place. */
        private static long turn(long fromX, long fromY, long toX, long toY) {
            return fromX * toY - fromY * toX;
        }

        /** The sign of turn(end, start), for the place moved as turnsAround says if it is on the chord's line. */
        private int sideOfChord(long turnEndStart) {
            if (turnEndStart != 0L) {
                return turnEndStart < 0L ? -1 : 1;
            }
            return endY != startY ? Integer.compare(endY, startY) : Integer.compare(endX, startX);
        }

        /** How the chord crosses the ray that goes right from the place: 1 down, -1 up. */
        private int chordShare(int chordSide, int y) {
            boolean fromBelow = startY >= y;
            boolean toBelow = endY >= y;
            if (fromBelow == toBelow) {
                return 0;
            }
            if (toBelow) {
                return chordSide < 0 ? 1 : 0;
            }
            return chordSide > 0 ? -1 : 0;
        }

        /** For an arc whose three points are on one line, and a place on that line. */
        private boolean onStraightArc(int x, int y) {
            return reachesZero(startX - x, bendX - x, endX - x) && reachesZero(startY - y, bendY - y, endY - y);
        }

        /**
         * If both ends are on one side of zero, the arc along this axis comes to zero only when it is drawn to the
         * other side, and its turning point (start end - bend^2) / (start - 2 bend + end) is at or beyond zero.
         */
        private static boolean reachesZero(long start, long bend, long end) {
            int side = Long.compare(start, 0L);
            if (side == 0 || Long.compare(end, 0L) != side) {
                return true;
            }
            return Long.compare(bend, 0L) == -side && bend * bend >= start * end;
        }

        /** Compares a b with c d, none negative and all below 2^40: their products need more than 64 bits. */
        private static int compareProducts(long a, long b, long c, long d) {
            int high = Long.compare(highPart(a, b), highPart(c, d));
            return high != 0 ? high : Long.compare(lowPart(a, b), lowPart(c, d));
        }

        private static long highPart(long a, long b) {
            return (a >> LOW_BITS) * b + (((a & LOW_MASK) * b) >> LOW_BITS);
        }

        private static long lowPart(long a, long b) {
            return ((a & LOW_MASK) * b) & LOW_MASK;
        }
    }
}
