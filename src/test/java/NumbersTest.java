/** Promises 1 to 11, and what undo brings back after each. */
public final class NumbersTest {
    private static final Class<?> INDEX = IndexOutOfBoundsException.class;
    private static final Class<?> ARGUMENT = IllegalArgumentException.class;
    private static final Class<?> STATE = IllegalStateException.class;
    private static final int LEAST = Integer.MIN_VALUE;
    private static final int MOST = Integer.MAX_VALUE;

    public static void main(String[] args) {
        newObject();
        begin();
        put();
        add();
        wipe();
        shift();
        turn();
        keep();
        mark();
        goBack();
        set();
        Check.end();
    }

    private static void newObject() {
        CubeSlices c = new CubeSlices();
        Check.same("1: side", c.count(0), 4);
        Check.same("1: axis", c.count(1), 2);
        Check.same("1: numbers", c.count(2), 0);
        Check.same("1: sum", c.count(3), 0);
        Check.same("1: saved", c.count(8), 0);
        Check.same("1: differences", c.difference(0), 0);
        Check.same("1: length", c.clearBuffer(), 0);
        Check.same("1: setting", c.set(4), 4);
        Check.same("1: last point", c.at(3, 3, 3), 0);
        Check.same("1: NONE", CubeSlices.NONE, -1);
    }

    private static void begin() {
        CubeSlices c = new CubeSlices();
        for (int side = 2; side <= 8; side++) {
            Check.same("2: begin", c.begin(side), (long) side * side * side);
            Check.same("2: side", c.count(0), side);
        }
        Check.same("2: saved", c.count(8), 6);
        c = new CubeSlices();
        c.put(3, 3, 3, 8);
        c.mark();
        c.put(0, 0, 0, 5);
        c.keep(1);
        c.set(9);
        c.begin(4);
        Check.same("2: numbers", c.count(2), 0);
        Check.same("2: mark is zeros", c.difference(0), 0);
        Check.same("2: axis stays", c.count(1), 1);
        Check.same("2: setting stays", c.set(2), 9);
        c.undo();
        c.undo();
        Check.same("2: undone", c.at(3, 3, 3), 8);
        Check.same("2: undone", c.at(0, 0, 0), 5);
        Check.same("2: mark undone", c.difference(0), 1);
        c.begin(8);
        c.put(7, 7, 7, 1);
        c.begin(8);
        Check.same("2: zeros", c.at(7, 7, 7), 0);
        c.undo();
        c.undo();
        c.undo();
        Check.same("2: side undone", c.count(0), 4);
        CubeSlices d = c;
        for (int side : new int[] {1, 9, 0, -4, LEAST, MOST}) {
            Check.fails(d, "2: begin " + side, ARGUMENT, () -> d.begin(side));
        }
    }

    private static void put() {
        CubeSlices c = new CubeSlices();
        Check.same("3: put", c.put(1, 2, 3, -999), 0);
        Check.same("3: put again", c.put(1, 2, 3, 999), -999);
        Check.same("3: there", c.at(1, 2, 3), 999);
        Check.same("3: not elsewhere", c.at(3, 2, 1), 0);
        Check.same("3: the same", c.put(1, 2, 3, 999), 999);
        Check.same("3: saved, also if nothing changes", c.count(8), 3);
        c.undo();
        c.undo();
        Check.same("3: undone", c.at(1, 2, 3), -999);
        for (int k : new int[] {-1, 4, LEAST, MOST}) {
            Check.fails(c, "3: put x " + k, INDEX, () -> c.put(k, 0, 0, 1));
            Check.fails(c, "3: put y " + k, INDEX, () -> c.put(0, k, 0, 1));
            Check.fails(c, "3: put z " + k, INDEX, () -> c.put(0, 0, k, 1000));
        }
        for (int k : new int[] {-1000, 1000, LEAST, MOST}) {
            Check.fails(c, "3: put number " + k, ARGUMENT, () -> c.put(0, 0, 0, k));
        }
    }

    private static void add() {
        CubeSlices c = new CubeSlices();
        c.put(1, 1, 1, -7);
        c.put(3, 3, 3, 990);
        Check.same("4: add", c.add(0, 1, 1, 2, 7), 7);
        Check.same("4: sum", c.count(3), 990 + 49);
        Check.same("4: in the box", c.at(0, 2, 2), 7);
        Check.same("4: to zero", c.at(1, 1, 1), 0);
        Check.same("4: out of the box", c.at(2, 1, 1), 0);
        c.undo();
        Check.same("4: undone", c.at(1, 1, 1), -7);
        Check.same("4: one point", c.add(3, 3, 3, 1, 9), 1);
        Check.same("4: up to 999", c.at(3, 3, 3), 999);
        Check.fails(c, "4: above 999", STATE, () -> c.add(2, 2, 2, 2, 1));
        Check.same("4: the whole cube", c.add(0, 0, 0, 4, -992), 64);
        Check.same("4: down to -999", c.at(1, 1, 1), -999);
        Check.fails(c, "4: below -999", STATE, () -> c.add(0, 0, 0, 4, -1));
        Check.same("4: nothing added", c.add(0, 0, 0, 1, 0), 1);
        Check.same("4: saved", c.count(8), 5);
        addWrong(c);
        addAtTheEdge();
        CubeSlices d = new CubeSlices();
        d.begin(8);
        Check.same("4: the size 8", d.add(0, 0, 0, 8, 999), 512);
        Check.same("4: the sum", d.count(3), 512 * 999);
        Check.same("4: back to zeros", d.add(0, 0, 0, 8, -999), 0);
    }

    /** A number that can't take more matters in the box, wherever it stands in it, and nowhere else. */
    private static void addAtTheEdge() {
        for (int k = 0; k < 64; k++) {
            CubeSlices c = new CubeSlices();
            int x = k % 4;
            int y = k / 4 % 4;
            int z = k / 16;
            c.put(x, y, z, 999);
            if (x > 0 && x < 3 && y > 0 && y < 3 && z > 0 && z < 3) {
                Check.fails(c, "4: in the box", STATE, () -> c.add(1, 1, 1, 2, 1));
            } else {
                Check.same("4: out of the box", c.add(1, 1, 1, 2, 1), 8);
                Check.same("4: out of the box", c.count(3), 999 + 8);
            }
        }
    }

    private static void addWrong(CubeSlices c) {
        for (int k : new int[] {-1, 4, LEAST, MOST}) {
            Check.fails(c, "4: x " + k, INDEX, () -> c.add(k, 0, 0, 1, 1000));
            Check.fails(c, "4: y " + k, INDEX, () -> c.add(0, k, 0, 0, 1));
            Check.fails(c, "4: z " + k, INDEX, () -> c.add(0, 0, k, MOST, 1));
        }
        Check.fails(c, "4: box beyond x", INDEX, () -> c.add(3, 0, 0, 2, 1));
        Check.fails(c, "4: box beyond y", INDEX, () -> c.add(0, 3, 0, 2, 1));
        Check.fails(c, "4: box beyond z", INDEX, () -> c.add(0, 0, 3, 2, 1000));
        Check.fails(c, "4: box beyond", INDEX, () -> c.add(0, 0, 0, 8, 1));
        for (int k : new int[] {0, 9, -1, LEAST, MOST}) {
            Check.fails(c, "4: size " + k, ARGUMENT, () -> c.add(1, 1, 1, k, 1));
        }
        for (int k : new int[] {-1000, 1000, LEAST, MOST}) {
            Check.fails(c, "4: number " + k, ARGUMENT, () -> c.add(0, 0, 0, 1, k));
        }
    }

    private static void wipe() {
        for (int axis = 0; axis < 3; axis++) {
            CubeSlices c = new CubeSlices();
            c.begin(3);
            c.add(0, 0, 0, 3, 1);
            c.put(1, 1, 1, 0);
            Check.same("5: wipe", c.wipe(axis, 1), 8);
            Check.same("5: the others stay", c.count(2), 18);
            Check.same("5: the slice", c.slice(axis, 1, 1), 0);
            Check.same("5: again", c.wipe(axis, 1), 0);
            Check.same("5: the last", c.wipe(axis, 2), 9);
            Check.same("5: saved", c.count(8), 6);
            c.undo();
            c.undo();
            c.undo();
            Check.same("5: undone", c.count(2), 26);
            for (int k : new int[] {-1, 3, LEAST, MOST}) {
                int a = axis;
                Check.fails(c, "5: coordinate " + k, INDEX, () -> c.wipe(a, k));
                Check.fails(c, "5: both " + k, INDEX, () -> c.wipe(-1, k));
                Check.fails(c, "5: axis " + k, ARGUMENT, () -> c.wipe(k, 2));
            }
        }
    }

    private static void shift() {
        for (int axis = 0; axis < 3; axis++) {
            CubeSlices c = new CubeSlices();
            c.put(0, 1, 2, 5);
            c.put(3, 3, 3, 7);
            Check.same("6: shift", c.shift(axis), 4);
            Check.same("6: by one", c.at(axis == 0 ? 1 : 0, axis == 1 ? 2 : 1, axis == 2 ? 3 : 2), 5);
            Check.same("6: around", c.at(axis == 0 ? 0 : 3, axis == 1 ? 0 : 3, axis == 2 ? 0 : 3), 7);
            Check.same("6: no more", c.count(2), 2);
            Check.same("6: saved", c.count(8), 3);
            c.undo();
            Check.same("6: undone", c.at(0, 1, 2), 5);
            for (int k : new int[] {-1, 3, LEAST, MOST}) {
                Check.fails(c, "6: axis " + k, ARGUMENT, () -> c.shift(k));
            }
        }
        CubeSlices c = new CubeSlices();
        c.begin(2);
        c.add(0, 0, 0, 2, 4);
        Check.same("6: all the same", c.shift(1), 0);
        c.put(0, 0, 0, 5);
        c.put(1, 0, 0, 5);
        Check.same("6: a pair on the axis", c.shift(0), 0);
        Check.same("6: a pair across", c.shift(2), 4);
        Check.same("6: saved", c.count(8), 6);
    }

    private static void turn() {
        CubeSlices c = new CubeSlices();
        c.put(1, 2, 3, 5);
        c.put(0, 0, 1, 6);
        c.put(0, 0, 2, 7);
        Check.same("7: room ahead", c.count(4), 1 + 3 * 3);
        Check.same("7: turn", c.turn(), 4 + 1 + 3 + 1);
        Check.same("7: comes to z, x, y", c.at(3, 1, 2), 5);
        Check.same("7: comes to z, x, y", c.at(1, 0, 0), 6);
        Check.same("7: comes to z, x, y", c.at(2, 0, 0), 7);
        Check.same("7: no more", c.count(2), 3);
        c.turn();
        c.turn();
        Check.same("7: thrice", c.at(1, 2, 3), 5);
        c.undo();
        c.undo();
        c.undo();
        Check.same("7: undone", c.at(0, 0, 1), 6);
        Check.same("7: saved", c.count(8), 3);
    }

    private static void keep() {
        CubeSlices c = new CubeSlices();
        c.put(0, 0, 0, 1);
        c.put(1, 0, 0, 1);
        c.put(2, 0, 0, 1);
        Check.same("8: axis 0", c.keep(0), 3 + 3 + 3 + 1);
        Check.same("8: axis", c.count(1), 0);
        Check.same("8: axis 1", c.keep(1), 5 + 1);
        Check.same("8: axis 2", c.keep(2), 5 + 1);
        Check.same("8: the same", c.keep(2), 6);
        Check.fails(c, "8: axis -1", ARGUMENT, () -> c.keep(-1));
        Check.fails(c, "8: axis 3", ARGUMENT, () -> c.keep(3));
        Check.fails(c, "8: axis least", ARGUMENT, () -> c.keep(LEAST));
        Check.same("8: saved", c.count(8), 6);
        c.undo();
        c.undo();
        Check.same("8: undone", c.count(1), 1);
    }

    private static void mark() {
        CubeSlices c = new CubeSlices();
        c.put(0, 0, 0, 3);
        c.put(3, 3, 3, -3);
        Check.same("9: mark", c.mark(), 2);
        Check.same("9: again", c.mark(), 0);
        Check.same("9: numbers stay", c.at(3, 3, 3), -3);
        c.put(0, 0, 0, 4);
        Check.same("9: a copy", c.difference(0), 1);
        c.undo();
        c.undo();
        Check.same("9: undone", c.difference(0), 0);
        c.undo();
        Check.same("9: undone", c.difference(0), 2);
        Check.same("9: saved", c.count(8), 2);
    }

    private static void goBack() {
        CubeSlices c = new CubeSlices();
        c.put(0, 0, 0, 3);
        c.mark();
        c.put(0, 0, 0, 0);
        c.put(1, 0, 0, 5);
        c.keep(0);
        c.set(7);
        Check.same("10: goBack", c.goBack(), 2);
        Check.same("10: as then", c.at(0, 0, 0), 3);
        Check.same("10: as then", c.at(1, 0, 0), 0);
        Check.same("10: axis stays", c.count(1), 0);
        Check.same("10: setting stays", c.set(7), 7);
        Check.same("10: mark stays", c.difference(0), 0);
        Check.same("10: again", c.goBack(), 0);
        c.undo();
        c.undo();
        c.undo();
        Check.same("10: undone", c.at(1, 0, 0), 5);
        Check.same("10: only that", c.count(1), 0);
        c.put(2, 2, 2, 2);
        Check.same("10: mark undone too", c.goBack(), 3);
    }

    private static void set() {
        CubeSlices c = new CubeSlices();
        Check.same("11: set", c.set(1), 4);
        Check.same("11: set", c.set(64), 1);
        Check.same("11: the same", c.set(64), 64);
        Check.same("11: saved", c.count(8), 3);
        c.undo();
        c.undo();
        c.put(0, 0, 0, 1);
        Check.same("11: listed", c.slice(2, 0, 3), 1);
        c.put(1, 0, 0, 1);
        Check.same("11: full", c.slice(2, 0, 3), 2);
        c.undo();
        c.undo();
        c.undo();
        Check.same("11: undone", c.set(2), 4);
        for (int k : new int[] {0, 65, -1, LEAST, MOST}) {
            Check.fails(c, "11: set " + k, ARGUMENT, () -> c.set(k));
        }
    }
}
