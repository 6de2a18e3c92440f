import java.util.Arrays;

/** Promises 1 to 11: a test for each sentence, and for each edge that it names. */
public final class NumbersTest {
    private static final int LEAST = Integer.MIN_VALUE;
    private static final int MOST = Integer.MAX_VALUE;

    public static void main(String[] args) {
        Check.sentences(NumbersTest.class);
    }

    private static boolean isIn(int value, int least, int most) {
        return least <= value && value <= most;
    }

    private static void meetCounted(String run, CubeSlices c, int side) {
        for (int[] p : Cubes.points(side)) {
            Check.same(run + " " + Arrays.toString(p) + " of " + side, Cubes.at(c, p), Cubes.numberCounted(p));
        }
        Check.same(run + ": numbers of " + side, c.count(2), Cubes.points(side).size());
    }

    // ---- promise 1: a new object

    @Sentence(of = "Promise 1", says = "Creates a cube of zeros with the side 4")
    static void promise1_zerosWithTheSide4() {
        CubeSlices c = new CubeSlices();
        Check.same("side", c.count(0), 4);
        Check.same("numbers", c.count(2), 0);
        Check.same("sum", c.count(3), 0);
        for (int i = 0; i < 64; i++) {
            Check.same("point " + i, c.at(i % 4, i / 4 % 4, i / 16), 0);
        }
        Check.noSuchIndex(c, "at 4", () -> c.at(0, 0, 4));
    }

    @Sentence(of = "Promise 1", says = "kept by the slices of the axis 2")
    static void promise1_keptByTheAxis2() {
        CubeSlices c = new CubeSlices();
        Check.same("axis", c.count(1), 2);
        c.put(3, 3, 1, 5);
        c.put(0, 0, 2, 6);
        Check.same("first in the order", c.ordered(0, 3), 1005);
    }

    @Sentence(of = "Promise 1", says = "with an empty buffer")
    static void promise1_emptyBuffer() {
        CubeSlices c = new CubeSlices();
        Check.same("no error", c.firstError(), 0);
        Check.same("length", c.clearBuffer(), 0);
        Check.same("first character", c.append('0'), 1);
    }

    @Sentence(of = "Promise 1", says = "Creates a cube")
    static void promise1_nothingSavedAndNothingShared() {
        CubeSlices c = new CubeSlices();
        c.put(0, 0, 0, 1);
        c.append('0');
        CubeSlices d = new CubeSlices();
        Check.same("saved", d.count(8), 0);
        Check.wrongState(d, "undo", () -> d.undo());
        Check.same("number of another object", d.at(0, 0, 0), 0);
        Check.same("buffer of another object", d.clearBuffer(), 0);
    }

    // ---- promise 2: begin

    @Sentence(of = "Promise 2", says = "Begins anew with a cube of zeros, and a mark of zeros, with a side")
    static void promise2_zerosAndAMarkOfZeros() {
        for (int side = 2; side <= 8; side++) {
            CubeSlices c = Cubes.counted(side);
            c.mark();
            c.put(0, 0, 0, -5);
            c.begin(side);
            Check.same("numbers", c.count(2), 0);
            Check.same("sum", c.count(3), 0);
            Check.same("differences from the mark", c.difference(0), 0);
            c.add(0, 0, 0, side, 3);
            Check.same("back to the mark", c.goBack(), side * side * side);
            Check.same("numbers of the mark", c.count(2), 0);
        }
    }

    @Sentence(of = "Promise 2", says = "Begins anew with a cube of zeros, and a mark of zeros, with a side")
    static void promise2_zerosBehindASmallerSide() {
        CubeSlices c = Cubes.counted(8);
        c.mark();
        c.begin(2);
        Check.same("differences of 2", c.difference(0), 0);
        c.add(0, 0, 0, 2, 9);
        c.mark();
        c.begin(8);
        Check.same("numbers of 8", c.count(2), 0);
        Check.same("differences of 8", c.difference(0), 0);
    }

    @Sentence(of = "Promise 2", says = "(the axis by which it is kept, and the setting, stay)")
    static void promise2_axisAndSettingStay() {
        for (int axis = 0; axis < 3; axis++) {
            CubeSlices c = new CubeSlices();
            c.keep(axis);
            c.set(9 + axis);
            c.begin(5);
            Check.same("axis", c.count(1), axis);
            Check.same("setting", c.set(1), 9 + axis);
        }
    }

    @Sentence(of = "Promise 2", says = "Begins anew")
    static void promise2_savedStatesAndBufferStay() {
        CubeSlices c = new CubeSlices();
        c.put(0, 0, 0, 1);
        c.append('7');
        c.begin(2);
        Check.same("saved", c.count(8), 2);
        Check.same("buffer", c.clearBuffer(), 1);
    }

    @Sentence(of = "Promise 2", says = "Undoable.")
    static void promise2_undoable() {
        CubeSlices c = Cubes.with(8, "777=8 123=4");
        c.mark();
        c.put(0, 0, 0, 5);
        c.begin(2);
        c.begin(8);
        c.undo();
        Check.same("side 2", c.count(0), 2);
        c.undo();
        Check.same("side 8", c.count(0), 8);
        Check.same("number", c.at(7, 7, 7), 8);
        Check.same("number", c.at(0, 0, 0), 5);
        Check.same("numbers", c.count(2), 3);
        Check.same("the mark", c.difference(0), 1);
        Check.same("back to the mark", c.goBack(), 1);
        Check.same("number", c.at(1, 2, 3), 4);
    }

    @Sentence(of = "Promise 2", says = "- `side`: 2 to 8")
    static void promise2_eachSide() {
        for (int side = 2; side <= 8; side++) {
            CubeSlices c = Cubes.zeros(side);
            int last = side - 1;
            int beyond = side;
            Check.same("side", c.count(0), side);
            Check.same("last point", c.at(last, last, last), 0);
            Check.noSuchIndex(c, "at " + beyond, () -> c.at(beyond, beyond, beyond));
        }
    }

    @Sentence(of = "Promise 2", says = "Returns how many points it has.")
    static void promise2_returnsThePoints() {
        CubeSlices c = new CubeSlices();
        int[] due = {8, 27, 64, 125, 216, 343, 512};
        for (int side = 2; side <= 8; side++) {
            Check.same("begin " + side, c.begin(side), due[side - 2]);
        }
    }

    @Sentence(of = "Promise 2", says = "Throws `IllegalArgumentException` if side is out of range")
    static void promise2_sideOutOfRange() {
        CubeSlices c = Cubes.with(3, "222=1");
        for (int k : Check.outside(2, 8)) {
            Check.wrongArgument(c, "begin " + k, () -> c.begin(k));
        }
        Check.wrongArgument(c, "begin 0", () -> c.begin(0));
        Check.wrongArgument(c, "begin -2", () -> c.begin(-2));
    }

    // ---- promise 3: put

    @Sentence(of = "Promise 3", says = "Puts a number.")
    static void promise3_putsAtThatPointAlone() {
        for (int side = 2; side <= 8; side++) {
            CubeSlices c = Cubes.counted(side);
            meetCounted("put", c, side);
        }
    }

    @Sentence(of = "Promise 3", says = "Undoable.")
    static void promise3_undoable() {
        CubeSlices c = new CubeSlices();
        c.put(1, 2, 3, 4);
        c.put(1, 2, 3, 4);
        Check.same("saved, also if nothing changes", c.count(8), 2);
        c.put(1, 2, 3, 0);
        c.undo();
        Check.same("undone", c.at(1, 2, 3), 4);
        c.undo();
        Check.same("undone", c.at(1, 2, 3), 4);
        c.undo();
        Check.same("undone", c.at(1, 2, 3), 0);
    }

    @Sentence(of = "Promise 3", says = {"- `x`: a coordinate", "- `y`: a coordinate", "- `z`: a coordinate"})
    static void promise3_eachCorner() {
        for (int side = 2; side <= 8; side++) {
            CubeSlices c = Cubes.zeros(side);
            int number = 0;
            for (int[] p : Cubes.corners(side)) {
                number++;
                Check.same("put", c.put(p[0], p[1], p[2], number), 0);
                Check.same("at", Cubes.at(c, p), number);
            }
            Check.same("corners", c.count(2), 8);
        }
    }

    @Sentence(of = "Promise 3", says = "- `number`: -999 to 999")
    static void promise3_leastAndGreatestNumber() {
        CubeSlices c = new CubeSlices();
        c.put(0, 3, 0, -999);
        c.put(3, 0, 3, 999);
        Check.same("least", c.at(0, 3, 0), -999);
        Check.same("greatest", c.at(3, 0, 3), 999);
        c.put(3, 0, 3, 0);
        Check.same("zero", c.at(3, 0, 3), 0);
    }

    @Sentence(of = "Promise 3", says = "Returns the number that was there.")
    static void promise3_returnsTheNumberBefore() {
        CubeSlices c = new CubeSlices();
        Check.same("zero", c.put(1, 2, 3, -999), 0);
        Check.same("least", c.put(1, 2, 3, 999), -999);
        Check.same("greatest", c.put(1, 2, 3, 999), 999);
        Check.same("the same", c.put(1, 2, 3, 0), 999);
        Check.same("zero again", c.put(1, 2, 3, 7), 0);
    }

    @Sentence(of = "Promise 3", says = "Throws `IndexOutOfBoundsException` if there is no such point")
    static void promise3_noSuchPoint() {
        for (int side = 2; side <= 8; side++) {
            CubeSlices c = Cubes.with(side, "101=3");
            for (int k : Check.outside(0, side - 1)) {
                Check.noSuchIndex(c, "x " + k, () -> c.put(k, 0, 0, 1));
                Check.noSuchIndex(c, "y " + k, () -> c.put(0, k, 0, 1));
                Check.noSuchIndex(c, "z " + k, () -> c.put(0, 0, k, 1));
                Check.noSuchIndex(c, "z and number " + k, () -> c.put(0, 0, k, 1000));
            }
        }
    }

    @Sentence(of = "Promise 3", says = "Throws `IllegalArgumentException` if number is out of range")
    static void promise3_numberOutOfRange() {
        CubeSlices c = Cubes.with(4, "000=3");
        for (int k : Check.outside(-999, 999)) {
            Check.wrongArgument(c, "number " + k, () -> c.put(0, 0, 0, k));
        }
    }

    // ---- promise 4: add

    @Sentence(of = "Promise 4", says = "Adds a number to all points of a box.")
    static void promise4_addsInTheBoxAlone() {
        for (int corner = 0; corner < 8; corner++) {
            CubeSlices c = Cubes.counted(4);
            int x = 1 + (corner & 1);
            int y = 1 + (corner >> 1 & 1);
            int z = 1 + (corner >> 2);
            c.add(x, y, z, 2, -400);
            for (int[] p : Cubes.points(4)) {
                boolean inBox = isIn(p[0], x, x + 1) && isIn(p[1], y, y + 1) && isIn(p[2], z, z + 1);
                Check.same("at " + Arrays.toString(p), Cubes.at(c, p),
                        Cubes.numberCounted(p) - (inBox ? 400 : 0));
            }
        }
    }

    @Sentence(of = "Promise 4", says = "Undoable.")
    static void promise4_undoable() {
        CubeSlices c = Cubes.with(4, "111=-7 222=5");
        c.add(0, 0, 0, 4, 7);
        c.add(0, 0, 0, 1, 0);
        Check.same("saved, also if nothing changes", c.count(8), 5);
        Cubes.undoTimes(c, 2);
        Check.same("undone", c.at(1, 1, 1), -7);
        Check.same("undone", c.at(2, 2, 2), 5);
        Check.same("undone", c.count(2), 2);
    }

    @Sentence(of = "Promise 4", says = {"- `x`: the least x", "- `y`: the least y", "- `z`: the least z"})
    static void promise4_theLeastCornerIsTold() {
        CubeSlices c = new CubeSlices();
        c.add(2, 1, 0, 2, 1);
        Check.same("least corner", c.at(2, 1, 0), 1);
        Check.same("greatest corner", c.at(3, 2, 1), 1);
        Check.same("below the least x", c.at(1, 1, 0), 0);
        Check.same("below the least y", c.at(2, 0, 0), 0);
        Check.same("beyond the greatest y", c.at(2, 3, 0), 0);
        Check.same("beyond the greatest z", c.at(2, 1, 2), 0);
        Check.same("points", c.count(2), 8);
    }

    @Sentence(of = "Promise 4", says = "1 to 8: the box has so many points along each axis")
    static void promise4_eachSize() {
        for (int size = 1; size <= 8; size++) {
            CubeSlices c = Cubes.zeros(8);
            int at = 8 - size;
            Check.same("size " + size, c.add(at, at, at, size, 2), size * size * size);
            Check.same("points", c.count(2), size * size * size);
            Check.same("sum", c.count(3), 2 * size * size * size);
            Check.same("least corner", c.at(at, at, at), 2);
            Check.same("greatest corner", c.at(7, 7, 7), 2);
        }
    }

    @Sentence(of = "Promise 4", says = "- `number`: -999 to 999")
    static void promise4_leastAndGreatestNumber() {
        CubeSlices c = Cubes.zeros(8);
        Check.same("greatest", c.add(0, 0, 0, 8, 999), 512);
        Check.same("sum", c.count(3), 512 * 999);
        Check.same("least", c.add(0, 0, 0, 8, -999), 0);
        Check.same("least again", c.add(7, 0, 7, 1, -999), 1);
        Check.same("nothing", c.add(7, 0, 7, 1, 0), 1);
        Check.same("number", c.at(7, 0, 7), -999);
    }

    @Sentence(of = "Promise 4", says = "Returns how many points of the box have a number other than 0 then.")
    static void promise4_returnsTheBoxesPointsOtherThan0() {
        CubeSlices c = Cubes.with(4, "111=-7 112=-7 333=-7 000=4");
        Check.same("two become 0", c.add(1, 1, 1, 2, 7), 6);
        Check.same("all become 0 but two", c.add(1, 1, 1, 2, -7), 2);
        Check.same("nothing added to zeros", c.add(2, 2, 2, 1, 0), 0);
        Check.same("a whole box", c.add(0, 0, 0, 4, 1), 64);
        Check.same("negative ones count", c.add(1, 1, 1, 1, 5), 1);
        Check.same("that number", c.at(1, 1, 1), -1);
    }

    @Sentence(of = "Promise 4", says = "Throws `IndexOutOfBoundsException` if there is no such point")
    static void promise4_noSuchPoint() {
        for (int side = 2; side <= 8; side++) {
            CubeSlices c = Cubes.with(side, "101=3");
            for (int k : Check.outside(0, side - 1)) {
                Check.noSuchIndex(c, "x " + k, () -> c.add(k, 0, 0, 1, 1));
                Check.noSuchIndex(c, "y " + k, () -> c.add(0, k, 0, 1, 1));
                Check.noSuchIndex(c, "z " + k, () -> c.add(0, 0, k, 1, 1));
                Check.noSuchIndex(c, "x and number " + k, () -> c.add(k, 0, 0, 1, 1000));
                for (int size : Check.outside(1, 8)) {
                    Check.noSuchIndex(c, "x " + k + ", size " + size, () -> c.add(k, 0, 0, size, 1));
                    Check.noSuchIndex(c, "y " + k + ", size " + size, () -> c.add(0, k, 0, size, 1));
                    Check.noSuchIndex(c, "z " + k + ", size " + size, () -> c.add(0, 0, k, size, 1));
                }
            }
        }
    }

    @Sentence(of = "Promise 4", says = "or size is 1 to 8 and the box is not within the cube")
    static void promise4_boxNotWithinTheCube() {
        for (int side = 2; side <= 8; side++) {
            CubeSlices c = Cubes.with(side, "101=3");
            for (int least = 0; least < side; least++) {
                int k = least;
                for (int size = side - k + 1; size <= 8; size++) {
                    int s = size;
                    int fits = Math.max(0, side - s);
                    Check.noSuchIndex(c, "x " + k + ", size " + s, () -> c.add(k, fits, fits, s, 1));
                    Check.noSuchIndex(c, "y " + k + ", size " + s, () -> c.add(fits, k, fits, s, 1));
                    Check.noSuchIndex(c, "z " + k + ", size " + s, () -> c.add(fits, fits, k, s, 1));
                }
            }
            Check.same("the whole cube is within", c.add(0, 0, 0, side, 1), side * side * side);
            Check.noSuchIndex(c, "a wrong number too", () -> c.add(1, 1, 1, 8, 1000));
            Check.noSuchIndex(c, "a number beyond too", () -> c.add(1, 0, 1, 8, 999));
        }
    }

    @Sentence(of = "Promise 4", says = "Throws `IllegalArgumentException` if size or number is out of range")
    static void promise4_sizeOrNumberOutOfRange() {
        for (int side = 2; side <= 8; side += 3) {
            CubeSlices c = Cubes.with(side, "000=999 111=-999");
            int last = side - 1;
            for (int k : Check.outside(1, 8)) {
                Check.wrongArgument(c, "size " + k, () -> c.add(0, 0, 0, k, 1));
                Check.wrongArgument(c, "size " + k + " at the last", () -> c.add(last, last, last, k, 1));
                Check.wrongArgument(c, "size and number " + k, () -> c.add(0, 0, 0, k, 1000));
            }
            for (int k : Check.outside(-999, 999)) {
                Check.wrongArgument(c, "number " + k, () -> c.add(0, 0, 0, 1, k));
                Check.wrongArgument(c, "number " + k + ", a zero", () -> c.add(0, 1, 0, 1, k));
            }
        }
    }

    @Sentence(of = "Promise 4", says = "Throws `IllegalStateException` if a number would be below -999 or above 999")
    static void promise4_numberWouldBeBeyond() {
        CubeSlices c = Cubes.with(4, "222=990");
        Check.wrongState(c, "to 1000", () -> c.add(1, 1, 1, 2, 10));
        Check.same("to 999", c.add(1, 1, 1, 2, 9), 8);
        Check.same("999", c.at(2, 2, 2), 999);
        CubeSlices d = Cubes.with(4, "222=-990");
        Check.wrongState(d, "to -1000", () -> d.add(2, 2, 2, 2, -10));
        Check.same("to -999", d.add(2, 2, 2, 2, -9), 8);
        Check.same("-999", d.at(2, 2, 2), -999);
        Check.wrongState(d, "beyond by much", () -> d.add(0, 0, 0, 3, -999));
    }

    @Sentence(of = "Promise 4", says = "Throws `IllegalStateException` if a number would be below -999 or above 999")
    static void promise4_onlyNumbersOfTheBoxMatter() {
        for (int i = 0; i < 64; i++) {
            CubeSlices c = new CubeSlices();
            int x = i % 4;
            int y = i / 4 % 4;
            int z = i / 16;
            c.put(x, y, z, 999);
            if (isIn(x, 1, 2) && isIn(y, 1, 2) && isIn(z, 1, 2)) {
                Check.wrongState(c, "in the box " + x + y + z, () -> c.add(1, 1, 1, 2, 1));
            } else {
                Check.same("out of the box " + x + y + z, c.add(1, 1, 1, 2, 1), 8);
                Check.same("sum", c.count(3), 999 + 8);
            }
        }
    }

    // ---- promise 5: wipe

    @Sentence(of = "Promise 5", says = "Takes a whole slice to zeros.")
    static void promise5_wipesThatSliceAlone() {
        for (int axis = 0; axis < 3; axis++) {
            for (int at = 0; at < 4; at++) {
                CubeSlices c = Cubes.counted(4);
                c.wipe(axis, at);
                for (int[] p : Cubes.points(4)) {
                    Check.same("axis " + axis + ", at " + at, Cubes.at(c, p),
                            p[axis] == at ? 0 : Cubes.numberCounted(p));
                }
            }
        }
    }

    @Sentence(of = "Promise 5", says = "Undoable.")
    static void promise5_undoable() {
        CubeSlices c = Cubes.with(3, "012=5 112=-5");
        c.wipe(1, 1);
        c.wipe(1, 1);
        Check.same("saved, also if nothing changes", c.count(8), 5);
        Cubes.undoTimes(c, 2);
        Check.same("undone", c.at(0, 1, 2), 5);
        Check.same("undone", c.at(1, 1, 2), -5);
    }

    @Sentence(of = "Promise 5", says = {"- `axis`: 0 to 2", "- `at`: its coordinate on the axis"})
    static void promise5_firstAndLastSliceOfEachAxis() {
        for (int side = 2; side <= 8; side++) {
            for (int axis = 0; axis < 3; axis++) {
                CubeSlices c = Cubes.zeros(side);
                c.add(0, 0, 0, side, 1);
                Check.same("last", c.wipe(axis, side - 1), side * side);
                Check.same("first", c.wipe(axis, 0), side * side);
                Check.same("left", c.count(2), side * side * (side - 2));
            }
        }
    }

    @Sentence(of = "Promise 5", says = "Returns how many numbers other than 0 it had.")
    static void promise5_returnsTheNumbersThatItHad() {
        CubeSlices c = Cubes.with(4, "120=1 123=-1 020=999 333=4");
        Check.same("by the axis 0", c.wipe(0, 0), 1);
        Check.same("numbers of any sign", c.wipe(1, 2), 2);
        Check.same("empty", c.wipe(1, 2), 0);
        Check.same("the other one", c.wipe(2, 3), 1);
        c.add(0, 0, 0, 4, 1);
        Check.same("full", c.wipe(2, 0), 16);
    }

    @Sentence(of = "Promise 5", says = "Throws `IndexOutOfBoundsException` if there is no such coordinate")
    static void promise5_noSuchCoordinate() {
        for (int side = 2; side <= 8; side++) {
            CubeSlices c = Cubes.with(side, "111=1");
            for (int k : Check.outside(0, side - 1)) {
                for (int axis = 0; axis < 3; axis++) {
                    int a = axis;
                    Check.noSuchIndex(c, "axis " + a + ", at " + k, () -> c.wipe(a, k));
                }
                Check.noSuchIndex(c, "a wrong axis too, at " + k, () -> c.wipe(3, k));
            }
        }
    }

    @Sentence(of = "Promise 5", says = "Throws `IllegalArgumentException` if axis is out of range")
    static void promise5_axisOutOfRange() {
        CubeSlices c = Cubes.with(4, "111=1");
        for (int k : Check.outside(0, 2)) {
            Check.wrongArgument(c, "axis " + k, () -> c.wipe(k, 0));
            Check.wrongArgument(c, "axis " + k + ", the last", () -> c.wipe(k, 3));
        }
    }

    // ---- promise 6: shift

    private static void meetShift(int side, int axis) {
        CubeSlices c = Cubes.counted(side);
        c.shift(axis);
        for (int[] p : Cubes.points(side)) {
            int number = Cubes.numberCounted(p);
            p[axis] = p[axis] == side - 1 ? 0 : p[axis] + 1;
            Check.same("side " + side + ", axis " + axis + ", to " + p[axis], Cubes.at(c, p), number);
        }
        Check.same("side " + side + ", numbers", c.count(2), Cubes.points(side).size());
    }

    @Sentence(of = "Promise 6", says = "Shifts the cube along an axis by 1, around: "
            + "the number at the coordinate k comes to k + 1, that at the last one to 0.")
    static void promise6_shiftsAround() {
        for (int side = 2; side <= 8; side++) {
            for (int axis = 0; axis < 3; axis++) {
                meetShift(side, axis);
            }
        }
    }

    @Sentence(of = "Promise 6", says = "around")
    static void promise6_sideTimesIsAsBefore() {
        for (int axis = 0; axis < 3; axis++) {
            CubeSlices c = Cubes.with(3, "012=5 222=6 100=7");
            for (int i = 0; i < 3; i++) {
                c.shift(axis);
            }
            Check.same("as before", c.at(0, 1, 2), 5);
            Check.same("as before", c.at(2, 2, 2), 6);
            Check.same("as before", c.at(1, 0, 0), 7);
            Check.same("as many", c.count(2), 3);
        }
    }

    @Sentence(of = "Promise 6", says = "Shifts the cube")
    static void promise6_markStays() {
        CubeSlices c = Cubes.with(4, "000=5");
        c.mark();
        c.shift(0);
        Check.same("differences", c.difference(0), 2);
        Check.same("first", c.difference(3), 0);
    }

    @Sentence(of = "Promise 6", says = "Undoable.")
    static void promise6_undoable() {
        CubeSlices c = Cubes.with(4, "312=5");
        c.shift(0);
        Check.same("saved", c.count(8), 3);
        c.undo();
        Check.same("undone", c.at(3, 1, 2), 5);
        c.begin(4);
        c.shift(2);
        Check.same("saved, also if nothing changes", c.count(8), 4);
    }

    @Sentence(of = "Promise 6", says = "- `axis`: 0 to 2")
    static void promise6_eachAxis() {
        int[][] due = {{0, 3, 3}, {3, 0, 3}, {3, 3, 0}};
        for (int axis = 0; axis < 3; axis++) {
            CubeSlices c = Cubes.with(4, "333=5");
            c.shift(axis);
            Check.same("axis " + axis, c.at(due[axis][0], due[axis][1], due[axis][2]), 5);
        }
    }

    @Sentence(of = "Promise 6", says = "Returns how many points have another number then.")
    static void promise6_returnsThePointsWithAnotherNumber() {
        CubeSlices c = Cubes.zeros(2);
        Check.same("zeros", c.shift(0), 0);
        c.add(0, 0, 0, 2, 4);
        Check.same("all the same", c.shift(1), 0);
        c.put(0, 0, 0, 5);
        Check.same("one other", c.shift(2), 2);
        c.put(1, 0, 1, 5);
        Check.same("a pair on the axis", c.shift(0), 0);
        Check.same("a pair across", c.shift(1), 4);
        CubeSlices d = Cubes.counted(3);
        Check.same("all others", d.shift(1), 27);
        CubeSlices e = Cubes.with(4, "013=5 313=-5");
        Check.same("a line of 5, 0, 0, -5", e.shift(0), 3);
    }

    @Sentence(of = "Promise 6", says = "Throws `IllegalArgumentException` if axis is out of range")
    static void promise6_axisOutOfRange() {
        CubeSlices c = Cubes.with(4, "111=1");
        for (int k : Check.outside(0, 2)) {
            Check.wrongArgument(c, "axis " + k, () -> c.shift(k));
        }
    }

    // ---- promise 7: turn

    @Sentence(of = "Promise 7", says = "Turns the cube: the number at x, y, z comes to z, x, y.")
    static void promise7_comesToZXY() {
        for (int side = 2; side <= 8; side++) {
            CubeSlices c = Cubes.counted(side);
            c.turn();
            for (int[] p : Cubes.points(side)) {
                Check.same("from " + Arrays.toString(p), c.at(p[2], p[0], p[1]), Cubes.numberCounted(p));
            }
            Check.same("numbers of " + side, c.count(2), Cubes.points(side).size());
        }
    }

    @Sentence(of = "Promise 7", says = "Turns the cube")
    static void promise7_thriceIsAsBeforeAndTheRestStays() {
        CubeSlices c = Cubes.with(4, "123=5");
        c.mark();
        c.turn();
        Check.same("the axis stays", c.count(1), 2);
        Check.same("the mark stays", c.difference(0), 2);
        c.turn();
        c.turn();
        Check.same("as before", c.at(1, 2, 3), 5);
        Check.same("no difference", c.difference(0), 0);
        Check.same("the setting stays", c.set(1), 4);
    }

    @Sentence(of = "Promise 7", says = "Undoable.")
    static void promise7_undoable() {
        CubeSlices c = Cubes.with(4, "001=6");
        c.turn();
        c.undo();
        Check.same("undone", c.at(0, 0, 1), 6);
        c.begin(4);
        c.turn();
        Check.same("saved, also if nothing changes", c.count(8), 4);
    }

    @Sentence(of = "Promise 7", says = "Returns the room that it takes then.")
    static void promise7_returnsTheRoomThen() {
        CubeSlices c = new CubeSlices();
        Check.same("zeros", c.turn(), 1);
        Cubes.putAll(c, "123=5 001=6 002=7");
        Check.same("room ahead", c.count(4), 1 + 3 + 3 + 3);
        Check.same("points 312, 100, 200", c.turn(), 4 + 1 + 3 + 1);
        c.keep(0);
        Check.same("points 231, 010, 020 by the axis 0", c.turn(), 4 + 1 + 3 + 1);
        c.add(0, 0, 0, 4, 8);
        Check.same("full", c.turn(), 4 * 17);
    }

    // ---- promise 8: keep

    @Sentence(of = "Promise 8", says = "Changes the axis by which the cube is kept.")
    static void promise8_changesTheAxisAlone() {
        CubeSlices c = Cubes.counted(3);
        for (int axis = 0; axis < 3; axis++) {
            c.keep(axis);
            Check.same("axis", c.count(1), axis);
            Check.same("a number", c.at(0, 1, 2), Cubes.numberCounted(0, 1, 2));
            Check.same("last of the order", c.ordered(26, 3), 1000 + Cubes.numberCounted(2, 2, 2));
        }
        Check.same("second by the axis 2", c.ordered(1, 0), 1);
        c.keep(0);
        Check.same("second by the axis 0", c.ordered(1, 1), 1);
    }

    @Sentence(of = "Promise 8", says = "Undoable.")
    static void promise8_undoable() {
        CubeSlices c = new CubeSlices();
        c.keep(0);
        c.keep(1);
        c.keep(1);
        Check.same("saved, also if nothing changes", c.count(8), 3);
        Cubes.undoTimes(c, 2);
        Check.same("undone", c.count(1), 0);
        c.undo();
        Check.same("undone", c.count(1), 2);
    }

    @Sentence(of = "Promise 8", says = "- `axis`: 0 to 2")
    static void promise8_eachAxis() {
        CubeSlices c = Cubes.with(4, "023=1 133=2");
        int[] first = {1, 1, 1};
        int[] slices = {0, 2, 3};
        for (int axis = 0; axis < 3; axis++) {
            c.keep(axis);
            Check.same("axis", c.count(1), axis);
            Check.same("first of the order", c.ordered(0, 3), 1000 + first[axis]);
            Check.same("in its slice", c.ordered(0, axis), slices[axis]);
            Check.same("slices with numbers", c.count(6), axis == 2 ? 1 : 2);
        }
    }

    @Sentence(of = "Promise 8", says = "Returns the room that it takes then.")
    static void promise8_returnsTheRoomThen() {
        CubeSlices c = Cubes.with(4, "000=1 100=1 200=1");
        Check.same("axis 0", c.keep(0), 3 + 3 + 3 + 1);
        Check.same("axis 1", c.keep(1), 5 + 1);
        Check.same("axis 2", c.keep(2), 5 + 1);
        Check.same("the same again", c.keep(2), 6);
        c.begin(8);
        Check.same("zeros", c.keep(0), 1);
    }

    @Sentence(of = "Promise 8", says = "Throws `IllegalArgumentException` if axis is out of range")
    static void promise8_axisOutOfRange() {
        CubeSlices c = Cubes.with(4, "111=1");
        for (int k : Check.outside(0, 2)) {
            Check.wrongArgument(c, "axis " + k, () -> c.keep(k));
        }
    }

    // ---- promise 9: mark

    @Sentence(of = "Promise 9", says = "Sets the mark.")
    static void promise9_isACopyOfTheCube() {
        for (int side = 2; side <= 8; side += 3) {
            CubeSlices c = Cubes.counted(side);
            c.mark();
            Check.same("no difference", c.difference(0), 0);
            meetCounted("numbers stay", c, side);
            c.put(0, 0, 0, 500);
            c.put(1, 1, 1, 500);
            Check.same("it does not follow the cube", c.difference(0), 2);
            c.begin(side);
            c.add(0, 0, 0, side, 1);
            c.mark();
            c.wipe(2, side - 1);
            Check.same("up to the last point", c.difference(0), side * side);
        }
    }

    @Sentence(of = "Promise 9", says = "Undoable.")
    static void promise9_undoable() {
        CubeSlices c = Cubes.with(4, "000=3");
        c.mark();
        c.mark();
        Check.same("saved, also if nothing changes", c.count(8), 4);
        c.undo();
        Check.same("undone", c.difference(0), 0);
        c.undo();
        Check.same("undone", c.difference(0), 1);
    }

    @Sentence(of = "Promise 9", says = "Returns how many points had a difference other than 0.")
    static void promise9_returnsTheDifferencesBefore() {
        CubeSlices c = new CubeSlices();
        Check.same("zeros", c.mark(), 0);
        Cubes.putAll(c, "000=3 333=-3");
        Check.same("two, of the sum 0", c.mark(), 2);
        Check.same("none", c.mark(), 0);
        Cubes.putAll(c, "000=0 111=3");
        Check.same("to 0 is a difference", c.mark(), 2);
        c.begin(8);
        c.add(0, 0, 0, 8, 1);
        Check.same("all", c.mark(), 512);
    }

    // ---- promise 10: goBack

    @Sentence(of = "Promise 10", says = "Goes back to the mark: all numbers become as they were then")
    static void promise10_allNumbersAsThen() {
        CubeSlices c = new CubeSlices();
        Cubes.putAll(c, "000=1 312=2");
        c.goBack();
        Check.same("at first the mark is of zeros", c.count(2), 0);
        for (int side = 2; side <= 8; side++) {
            CubeSlices d = Cubes.counted(side);
            d.mark();
            d.wipe(0, side - 1);
            d.put(0, 0, 0, -999);
            d.goBack();
            meetCounted("back", d, side);
            Check.same("the mark stays", d.difference(0), 0);
            d.put(0, 0, 0, 7);
            Check.same("it does not follow the cube", d.difference(0), 1);
        }
    }

    @Sentence(of = "Promise 10", says = "(the axis by which the cube is kept, and the setting, stay)")
    static void promise10_axisAndSettingStay() {
        CubeSlices c = new CubeSlices();
        c.mark();
        c.put(0, 0, 0, 1);
        c.keep(0);
        c.set(7);
        c.goBack();
        Check.same("axis", c.count(1), 0);
        Check.same("setting", c.set(1), 7);
    }

    @Sentence(of = "Promise 10", says = "Undoable.")
    static void promise10_undoable() {
        CubeSlices c = Cubes.with(4, "123=5");
        c.goBack();
        c.goBack();
        Check.same("saved, also if nothing changes", c.count(8), 4);
        Cubes.undoTimes(c, 2);
        Check.same("undone", c.at(1, 2, 3), 5);
        Check.same("the mark", c.difference(0), 1);
    }

    @Sentence(of = "Promise 10", says = "Returns how many points have another number then.")
    static void promise10_returnsThePointsWithAnotherNumber() {
        CubeSlices c = new CubeSlices();
        Check.same("zeros", c.goBack(), 0);
        Cubes.putAll(c, "000=3 100=-3");
        Check.same("two, of the sum 0", c.goBack(), 2);
        Check.same("none", c.goBack(), 0);
        c.add(0, 0, 0, 4, 9);
        c.mark();
        c.put(3, 3, 3, 0);
        Check.same("from 0", c.goBack(), 1);
        c.begin(8);
        c.add(0, 0, 0, 8, -1);
        Check.same("all", c.goBack(), 512);
    }

    // ---- promise 11: set

    @Sentence(of = "Promise 11", says = "Changes the setting 0.")
    static void promise11_changesTheForms() {
        CubeSlices c = Cubes.with(4, "000=1 100=1");
        c.set(1);
        Check.same("full", c.slice(2, 0, 3), 2);
        c.set(2);
        Check.same("listed", c.slice(2, 0, 3), 1);
        Check.same("numbers stay", c.count(2), 2);
    }

    @Sentence(of = "Promise 11", says = "Undoable.")
    static void promise11_undoable() {
        CubeSlices c = new CubeSlices();
        c.set(5);
        c.set(5);
        Check.same("saved, also if nothing changes", c.count(8), 2);
        c.set(6);
        c.undo();
        Check.same("undone", c.set(1), 5);
        Cubes.undoTimes(c, 3);
        Check.same("undone", c.set(1), 4);
    }

    @Sentence(of = "Promise 11", says = "- `numbers`: 1 to 64")
    static void promise11_leastAndGreatest() {
        CubeSlices c = Cubes.zeros(8);
        c.add(0, 0, 0, 8, 1);
        c.set(64);
        Check.same("64 are listed", c.slice(0, 7, 3), 1);
        c.set(63);
        Check.same("but not by 63", c.slice(0, 7, 3), 2);
        c.begin(8);
        c.put(5, 5, 5, 1);
        c.set(1);
        Check.same("1 is listed", c.slice(0, 5, 3), 1);
    }

    @Sentence(of = "Promise 11", says = "Returns the previous one.")
    static void promise11_returnsThePrevious() {
        CubeSlices c = new CubeSlices();
        Check.same("the first", c.set(1), 4);
        Check.same("1", c.set(64), 1);
        Check.same("64", c.set(64), 64);
        Check.same("the same", c.set(4), 64);
    }

    @Sentence(of = "Promise 11", says = "Throws `IllegalArgumentException` if numbers is out of range")
    static void promise11_numbersOutOfRange() {
        CubeSlices c = Cubes.with(4, "111=1");
        for (int k : Check.outside(1, 64)) {
            Check.wrongArgument(c, "set " + k, () -> c.set(k));
        }
        for (int k : new int[] {LEAST + 1, MOST - 1, -4}) {
            Check.wrongArgument(c, "set " + k, () -> c.set(k));
        }
    }
}
