/** Promises 17 to 22. */
public final class LooksTest {
    private static final Class<?> INDEX = IndexOutOfBoundsException.class;
    private static final Class<?> ARGUMENT = IllegalArgumentException.class;
    private static final int LEAST = Integer.MIN_VALUE;
    private static final int MOST = Integer.MAX_VALUE;

    public static void main(String[] args) {
        at();
        line();
        slice();
        sliceRoom();
        ordered();
        difference();
        count();
        Check.end();
    }

    /** A cube of the side 3 with another number at each point: 100 x + 10 y + z + 1. */
    private static CubeSlices told() {
        CubeSlices c = new CubeSlices();
        c.begin(3);
        for (int x = 0; x < 3; x++) {
            for (int y = 0; y < 3; y++) {
                for (int z = 0; z < 3; z++) {
                    c.put(x, y, z, 100 * x + 10 * y + z + 1);
                }
            }
        }
        return c;
    }

    private static void at() {
        CubeSlices c = told();
        Check.same("17: at", c.at(0, 0, 0), 1);
        Check.same("17: at", c.at(2, 1, 0), 211);
        Check.same("17: at", c.at(0, 1, 2), 13);
        Check.same("17: saves nothing", c.count(8), 6);
        for (int k : new int[] {-1, 3, LEAST, MOST}) {
            Check.fails(c, "17: x " + k, INDEX, () -> c.at(k, 0, 0));
            Check.fails(c, "17: y " + k, INDEX, () -> c.at(0, k, 0));
            Check.fails(c, "17: z " + k, INDEX, () -> c.at(0, 0, k));
        }
    }

    private static void line() {
        CubeSlices c = told();
        Check.same("18: along 0, y 1, z 2", c.line(0, 1, 2), 300 + 3 * 13);
        Check.same("18: along 1, x 2, z 0", c.line(1, 2, 0), 30 + 3 * 201);
        Check.same("18: along 2, x 0, y 1", c.line(2, 0, 1), 3 + 3 * 11);
        c.put(1, 1, 1, -999);
        Check.same("18: below 0", c.line(2, 1, 1), 111 - 999 + 113);
        for (int k : new int[] {-1, 3, LEAST, MOST}) {
            Check.fails(c, "18: first " + k, INDEX, () -> c.line(0, k, 0));
            Check.fails(c, "18: other " + k, INDEX, () -> c.line(1, 0, k));
            Check.fails(c, "18: all " + k, INDEX, () -> c.line(k, 0, k));
            Check.fails(c, "18: axis " + k, ARGUMENT, () -> c.line(k, 2, 2));
        }
    }

    private static void slice() {
        CubeSlices c = told();
        Check.same("19: sum 0", c.slice(0, 2, 0), 9 * 201 + 90 + 9);
        Check.same("19: sum 1", c.slice(1, 2, 0), 9 * 21 + 900 + 9);
        Check.same("19: sum 2", c.slice(2, 2, 0), 9 * 3 + 900 + 90);
        Check.same("19: how many", c.slice(1, 0, 1), 9);
        Check.same("19: greatest 0", c.slice(0, 0, 2), 23);
        Check.same("19: greatest 1", c.slice(1, 0, 2), 203);
        Check.same("19: greatest 2", c.slice(2, 0, 2), 221);
        Check.same("19: full", c.slice(0, 0, 3), 2);
        Check.same("19: room", c.slice(0, 0, 4), 10);
        c.begin(2);
        c.add(0, 0, 0, 2, -3);
        Check.same("19: the greatest below 0", c.slice(2, 1, 2), -3);
        c.put(0, 0, 1, 0);
        Check.same("19: the greatest is 0", c.slice(2, 1, 2), 0);
        Check.same("19: how many", c.slice(2, 1, 1), 3);
        c.add(1, 0, 0, 1, -996);
        Check.same("19: down to -999", c.at(1, 0, 0), -999);
        for (int k : new int[] {-1, 2, LEAST, MOST}) {
            Check.fails(c, "19: at " + k, INDEX, () -> c.slice(0, k, 0));
            Check.fails(c, "19: both " + k, INDEX, () -> c.slice(3, k, 9));
        }
        for (int k : new int[] {-1, 5, LEAST, MOST}) {
            Check.fails(c, "19: axis " + k, ARGUMENT, () -> c.slice(k, 0, 0));
            Check.fails(c, "19: what " + k, ARGUMENT, () -> c.slice(0, 0, k));
        }
        Check.fails(c, "19: axis 3", ARGUMENT, () -> c.slice(3, 0, 0));
    }

    private static void sliceRoom() {
        CubeSlices c = new CubeSlices();
        Check.same("19: empty", c.slice(0, 3, 3), 0);
        Check.same("19: empty", c.slice(0, 3, 4), 1);
        c.put(3, 0, 3, 1);
        Check.same("19: one", c.slice(2, 3, 4), 3);
        c.put(0, 1, 3, 1);
        Check.same("19: offsets 3 and 4", c.slice(2, 3, 4), 4);
        c.put(2, 1, 3, 1);
        Check.same("19: and 6", c.slice(2, 3, 4), 6);
        c.put(0, 0, 3, -1);
        Check.same("19: and 0", c.slice(2, 3, 4), 8);
        Check.same("19: listed", c.slice(2, 3, 3), 1);
        c.put(1, 1, 3, 1);
        Check.same("19: full", c.slice(2, 3, 3), 2);
        Check.same("19: full", c.slice(2, 3, 4), 17);
        c.set(5);
        Check.same("19: listed by the setting", c.slice(2, 3, 4), 8);
        Check.same("19: another axis", c.slice(1, 1, 4), 5);
        Check.same("19: another axis", c.slice(0, 0, 4), 4);
        c.begin(8);
        c.set(64);
        c.add(0, 0, 0, 8, 1);
        Check.same("19: listed beyond the full", c.slice(0, 7, 3), 1);
        Check.same("19: listed beyond the full", c.slice(0, 7, 4), 66);
    }

    private static void ordered() {
        CubeSlices c = new CubeSlices();
        c.put(3, 0, 0, 5);
        c.put(0, 1, 0, -999);
        c.put(0, 0, 1, 999);
        int[][] byAxis0 = {{0, 1, 0, 1}, {0, 0, 1, 1999}, {3, 0, 0, 1005}};
        int[][] byAxis1 = {{3, 0, 0, 1005}, {0, 0, 1, 1999}, {0, 1, 0, 1}};
        int[][] byAxis2 = {{3, 0, 0, 1005}, {0, 1, 0, 1}, {0, 0, 1, 1999}};
        int[][][] due = {byAxis0, byAxis1, byAxis2};
        for (int axis = 0; axis < 3; axis++) {
            c.keep(axis);
            for (int rank = 0; rank < 3; rank++) {
                for (int what = 0; what < 4; what++) {
                    Check.same("20: by " + axis + ", " + rank + ", " + what, c.ordered(rank, what),
                            due[axis][rank][what]);
                }
            }
            for (int what = 0; what < 4; what++) {
                Check.same("20: none", c.ordered(3, what), -1);
                Check.same("20: none", c.ordered(MOST, what), -1);
            }
        }
        for (int k : new int[] {-1, LEAST}) {
            Check.fails(c, "20: rank " + k, ARGUMENT, () -> c.ordered(k, 0));
        }
        for (int k : new int[] {-1, 4, LEAST, MOST}) {
            Check.fails(c, "20: what " + k, ARGUMENT, () -> c.ordered(0, k));
            Check.fails(c, "20: what, and no point, " + k, ARGUMENT, () -> c.ordered(99, k));
        }
    }

    private static void difference() {
        CubeSlices c = new CubeSlices();
        Check.same("21: none", c.difference(0), 0);
        Check.same("21: none", c.difference(1), 0);
        Check.same("21: none", c.difference(2), 0);
        Check.same("21: none", c.difference(3), -1);
        c.put(2, 3, 1, 999);
        c.put(3, 3, 3, -5);
        c.mark();
        c.put(2, 3, 1, -999);
        c.put(3, 3, 3, 6);
        c.put(0, 0, 2, 7);
        Check.same("21: points", c.difference(0), 3);
        Check.same("21: sum", c.difference(1), -1998 + 11 + 7);
        Check.same("21: greatest size", c.difference(2), 1998);
        Check.same("21: first", c.difference(3), 2 + 4 * 3 + 16);
        c.keep(0);
        Check.same("21: not by the axis", c.difference(3), 30);
        c.put(0, 0, 0, 1);
        Check.same("21: rank 0", c.difference(3), 0);
        for (int k : new int[] {-1, 4, LEAST, MOST}) {
            Check.fails(c, "21: what " + k, ARGUMENT, () -> c.difference(k));
        }
    }

    private static void count() {
        CubeSlices c = new CubeSlices();
        c.begin(5);
        c.keep(1);
        c.put(0, 1, 0, 999);
        for (int x = 0; x < 5; x++) {
            c.put(x, 4, 4, -1);
        }
        int[] due = {5, 1, 6, 994, 1 + 3 + 1 + 26, 3, 1, 1, 6};
        for (int what = 0; what <= 8; what++) {
            Check.same("22: " + what, c.count(what), due[what]);
        }
        c.undo();
        Check.same("22: saved", c.count(8), 5);
        Check.same("22: listed", c.count(6), 2);
        Check.same("22: room", c.count(4), 1 + 3 + 1 + 6);
        for (int k : new int[] {-1, 9, LEAST, MOST}) {
            Check.fails(c, "22: what " + k, ARGUMENT, () -> c.count(k));
        }
    }
}
