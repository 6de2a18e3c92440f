/** Promises 23 to 28; the digest is also met by each step of ModelTest. */
public final class WouldBeTest {
    private static final Class<?> INDEX = IndexOutOfBoundsException.class;
    private static final Class<?> ARGUMENT = IllegalArgumentException.class;
    private static final int LEAST = Integer.MIN_VALUE;
    private static final int MOST = Integer.MAX_VALUE;

    public static void main(String[] args) {
        ifKept();
        ifPut();
        best();
        heaviest();
        roomShare();
        digest();
        Check.end();
    }

    private static void ifKept() {
        CubeSlices c = new CubeSlices();
        c.put(0, 0, 0, 1);
        c.put(1, 0, 0, 1);
        c.put(3, 0, 0, 1);
        Check.same("23: by 0", c.ifKept(0), 3 + 3 + 1 + 3);
        Check.same("23: by 1", c.ifKept(1), 6 + 1);
        Check.same("23: by 2", c.ifKept(2), 6 + 1);
        c.set(2);
        Check.same("23: by the setting", c.ifKept(2), 17 + 1);
        Check.same("23: is not kept", c.count(1), 2);
        Check.same("23: saves nothing", c.count(8), 4);
        for (int k : new int[] {-1, 3, LEAST, MOST}) {
            Check.fails(c, "23: axis " + k, ARGUMENT, () -> c.ifKept(k));
        }
    }

    private static void ifPut() {
        CubeSlices c = new CubeSlices();
        c.set(2);
        c.put(0, 0, 1, 1);
        c.put(1, 0, 1, 1);
        Check.same("24: full", c.ifPut(2, 0, 1, 9, 0), 1 + 17 + 1);
        Check.same("24: full", c.ifPut(2, 0, 1, 9, 1), 2);
        Check.same("24: listed", c.ifPut(1, 0, 1, 0, 0), 1 + 3 + 1);
        Check.same("24: listed", c.ifPut(1, 0, 1, 0, 1), 1);
        Check.same("24: another slice", c.ifPut(3, 3, 3, -999, 0), 1 + 4 + 1 + 3);
        Check.same("24: another slice", c.ifPut(3, 3, 3, 999, 1), 1);
        Check.same("24: empty", c.ifPut(3, 3, 3, 0, 1), 0);
        c.keep(0);
        Check.same("24: by the axis kept", c.ifPut(1, 0, 1, 0, 0), 3 + 1);
        Check.same("24: by the axis kept", c.ifPut(1, 0, 1, 0, 1), 0);
        Check.same("24: is not put", c.at(1, 0, 1), 1);
        Check.same("24: saves nothing", c.count(8), 4);
        for (int k : new int[] {-1, 4, LEAST, MOST}) {
            Check.fails(c, "24: x " + k, INDEX, () -> c.ifPut(k, 0, 0, 1000, 0));
            Check.fails(c, "24: y " + k, INDEX, () -> c.ifPut(0, k, 0, 1, 2));
            Check.fails(c, "24: z " + k, INDEX, () -> c.ifPut(0, 0, k, 1, 0));
        }
        for (int k : new int[] {-1000, 1000, LEAST, MOST}) {
            Check.fails(c, "24: number " + k, ARGUMENT, () -> c.ifPut(0, 0, 0, k, 0));
        }
        for (int k : new int[] {-1, 2, LEAST, MOST}) {
            Check.fails(c, "24: what " + k, ARGUMENT, () -> c.ifPut(0, 0, 0, 1, k));
        }
    }

    private static void meetBest(String run, CubeSlices c, int axis, int setting, int room) {
        Check.same(run + ": axis", c.best(0), axis);
        Check.same(run + ": setting", c.best(1), setting);
        Check.same(run + ": room", c.best(2), room);
    }

    private static void best() {
        CubeSlices c = new CubeSlices();
        meetBest("25: zeros", c, 0, 1, 1);
        c.put(0, 2, 0, 1);
        c.put(1, 2, 0, 1);
        c.put(2, 2, 0, 1);
        meetBest("25: a row", c, 2, 3, 5 + 1);
        c.shift(1);
        meetBest("25: at the end", c, 1, 3, 1 + 5);
        c.turn();
        meetBest("25: turned", c, 0, 3, 5 + 1);
        c.begin(8);
        c.add(0, 0, 0, 8, 1);
        meetBest("25: full is better than listed", c, 0, 1, 8 * 65);
        Check.same("25: changes nothing", c.count(1), 2);
        for (int k : new int[] {-1, 3, LEAST, MOST}) {
            Check.fails(c, "25: what " + k, ARGUMENT, () -> c.best(k));
        }
        bestSetting();
    }

    /** A slice that is all but full takes less room if it is listed, as long as its numbers follow one another. */
    private static void bestSetting() {
        CubeSlices c = new CubeSlices();
        c.begin(8);
        for (int y = 0; y < 8; y++) {
            for (int x = 0; x < 8; x++) {
                c.put(x, y, 0, x >= 6 && y == 7 ? 0 : 1);
            }
        }
        Check.same("25: 62 numbers", c.slice(2, 0, 1), 62);
        meetBest("25: 62 in a slice", c, 2, 62, 1 + 63 + 1);
        c.set(62);
        Check.same("25: that room", c.count(4), 65);
    }

    private static void meetHeaviest(String run, CubeSlices c, int axis, int former, int latter, int sum) {
        Check.same(run + ": axis", c.heaviest(0), axis);
        Check.same(run + ": former", c.heaviest(1), former);
        Check.same(run + ": latter", c.heaviest(2), latter);
        Check.same(run + ": sum", c.heaviest(3), sum + 10000);
    }

    private static void heaviest() {
        CubeSlices c = new CubeSlices();
        meetHeaviest("26: zeros", c, 0, 0, 0, 0);
        c.put(1, 2, 3, 7);
        meetHeaviest("26: one", c, 0, 2, 3, 7);
        c.put(1, 0, 3, 1);
        meetHeaviest("26: along 1", c, 1, 1, 3, 8);
        c.put(1, 2, 0, 2);
        meetHeaviest("26: along 2", c, 2, 1, 2, 9);
        c.put(3, 0, 0, 9);
        meetHeaviest("26: the lowest axis", c, 0, 0, 0, 9);
        c.begin(8);
        c.add(0, 0, 0, 8, -999);
        meetHeaviest("26: below 0", c, 0, 0, 0, -7992);
        c.put(0, 7, 0, 0);
        meetHeaviest("26: the lowest axis", c, 0, 7, 0, -6993);
        c.put(0, 0, 7, 0);
        meetHeaviest("26: the lowest former", c, 0, 0, 7, -6993);
        c.put(0, 0, 5, 0);
        c.add(0, 0, 0, 8, 500);
        meetHeaviest("26: the lowest axis, a pair", c, 2, 0, 0, 6 * -499 + 1000);
        for (int k : new int[] {-1, 4, LEAST, MOST}) {
            Check.fails(c, "26: what " + k, ARGUMENT, () -> c.heaviest(k));
        }
    }

    private static void roomShare() {
        CubeSlices c = new CubeSlices();
        Check.sameShare("27: zeros", c.roomShare(), 1.0 / 68);
        c.put(0, 0, 0, 1);
        Check.sameShare("27: one", c.roomShare(), 4.0 / 68);
        c.add(0, 0, 0, 4, 1);
        Check.sameShare("27: full", c.roomShare(), 1);
        c.set(64);
        Check.sameShare("27: above 1", c.roomShare(), 72.0 / 68);
        c.begin(3);
        Check.sameShare("27: side 3", c.roomShare(), 1.0 / 30);
        c.begin(8);
        Check.sameShare("27: side 8", c.roomShare(), 1.0 / 520);
    }

    private static void digest() {
        CubeSlices c = new CubeSlices();
        Check.same("28: new", c.digest(), new Model().digest());
        long before = c.digest();
        c.append('x');
        Check.same("28: the buffer counts", c.digest() == before ? 1 : 0, 0);
        c.clearBuffer();
        Check.same("28: nothing else", c.digest(), before);
        c.mark();
        c.undo();
        Check.same("28: undone", c.digest(), before);
    }
}
