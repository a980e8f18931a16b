import java.math.BigInteger;
import java.util.ArrayList;
import java.util.List;

/**
 * Windings by another way than the class takes: an arc is halved until the place is outside the box of its three
 * points; an arc that still has the place in its box after DEEP halvings goes through the place, since an arc of
 * whole numbers of this size comes no nearer to a whole place that it misses than about 2^-55.
 */
final class Oracle {
    static final int ON_CURVE = 1000;
    private static final int DEEP = 90;

    private final List<BigInteger[]> arcs = new ArrayList<>();

    /** Points of three numbers each: x, y and 1 for on. */
    void addContour(List<int[]> points) {
        List<int[]> doubled = withMiddles(points);
        int size = doubled.size();
        for (int k = 0; k < size; k++) {
            int[] from = doubled.get(k);
            int[] next = doubled.get((k + 1) % size);
            if (from[2] == 1 && next[2] == 1) {
                // The middle of a line, as its bend, would need quarters: so all is taken four times as large.
                addArc(from, new int[] {(from[0] + next[0]) / 2, (from[1] + next[1]) / 2}, next);
            } else if (from[2] == 1) {
                addArc(from, next, doubled.get((k + 2) % size));
            }
        }
    }

    private static List<int[]> withMiddles(List<int[]> points) {
        List<int[]> all = new ArrayList<>();
        int size = points.size();
        for (int k = 0; k < size; k++) {
            int[] from = points.get(k);
            int[] next = points.get((k + 1) % size);
            all.add(new int[] {4 * from[0], 4 * from[1], size == 1 ? 1 : from[2]});
            if (size > 1 && from[2] == 0 && next[2] == 0) {
                all.add(new int[] {2 * (from[0] + next[0]), 2 * (from[1] + next[1]), 1});
            }
        }
        return all;
    }

    private void addArc(int[] start, int[] bend, int[] end) {
        arcs.add(new BigInteger[] {big(start[0]), big(start[1]), big(bend[0]), big(bend[1]), big(end[0]), big(end[1])});
    }

    private static BigInteger big(long number) {
        return BigInteger.valueOf(number);
    }

    int windingAt(int x, int y) {
        int sum = 0;
        for (BigInteger[] arc : arcs) {
            BigInteger[] seen = new BigInteger[6];
            for (int k = 0; k < 6; k++) {
                seen[k] = arc[k].subtract(big(4L * (k % 2 == 0 ? x : y)));
            }
            int part = crossings(seen, DEEP);
            if (part == ON_CURVE) {
                return ON_CURVE;
            }
            sum += part;
        }
        return sum;
    }

    /** How often the arc crosses the ray that goes right from zero, down less up. */
    private static int crossings(BigInteger[] arc, int depth) {
        int sideX = commonSide(arc, 0);
        int sideY = commonSide(arc, 1);
        if (sideY != 0 || sideX < 0) {
            return 0;
        }
        if (sideX > 0) {
            return (arc[5].signum() >= 0 ? 1 : 0) - (arc[1].signum() >= 0 ? 1 : 0);
        }
        if (depth == 0) {
            return ON_CURVE;
        }
        int first = crossings(half(arc, 0, 4), depth - 1);
        int second = first == ON_CURVE ? ON_CURVE : crossings(half(arc, 4, 0), depth - 1);
        return second == ON_CURVE ? ON_CURVE : first + second;
    }

    /** The side of zero on which all three points are, or 0. */
    private static int commonSide(BigInteger[] arc, int axis) {
        int side = arc[axis].signum();
        return side == arc[axis + 2].signum() && side == arc[axis + 4].signum() ? side : 0;
    }

    /** The half at the end that is told, four times as large, from start to end of the whole. */
    private static BigInteger[] half(BigInteger[] arc, int near, int far) {
        BigInteger[] out = new BigInteger[6];
        for (int axis = 0; axis < 2; axis++) {
            BigInteger a = arc[near + axis];
            BigInteger b = arc[2 + axis];
            BigInteger c = arc[far + axis];
            out[near + axis] = a.shiftLeft(2);
            out[2 + axis] = a.add(b).shiftLeft(1);
            out[far + axis] = a.add(b).add(b).add(c);
        }
        return out;
    }
}
