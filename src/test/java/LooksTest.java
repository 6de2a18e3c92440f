/** Promises 17 to 22: a test for each sentence, and for each edge that it names. */
public final class LooksTest {
    private static final int MOST = Integer.MAX_VALUE;
    private static final int[] WEIGHTS = {100, 10, 1};

    public static void main(String[] args) {
        Check.sentences(LooksTest.class);
    }

    private static int former(int axis) {
        return axis == 0 ? 1 : 0;
    }

    private static int latter(int axis) {
        return axis == 2 ? 1 : 2;
    }

    // ---- promise 17: at

    @Sentence(of = "Promise 17", says = "Returns the number of a point.")
    static void promise17_ofThatPoint() {
        CubeSlices c = Cubes.counted(5);
        Check.same("at 123", c.at(1, 2, 3), 124);
        Check.same("at 321", c.at(3, 2, 1), 322);
        Check.same("at 231", c.at(2, 3, 1), 232);
        Check.same("at 400", c.at(4, 0, 0), 401);
        Check.same("at 040", c.at(0, 4, 0), 41);
        Check.same("at 004", c.at(0, 0, 4), 5);
    }

    @Sentence(of = "Promise 17", says = {"- `x`: a coordinate", "- `y`: a coordinate", "- `z`: a coordinate"})
    static void promise17_eachCorner() {
        for (int side = 2; side <= 8; side++) {
            CubeSlices c = Cubes.zeros(side);
            int number = -9;
            for (int[] p : Cubes.corners(side)) {
                number++;
                Check.same("zero", c.at(p[0], p[1], p[2]), 0);
                c.put(p[0], p[1], p[2], number);
                Check.same("number", c.at(p[0], p[1], p[2]), number);
            }
        }
    }

    @Sentence(of = "Promise 17", says = "Returns the number.")
    static void promise17_leastAndGreatest() {
        CubeSlices c = Cubes.with(8, "777=999 077=-999");
        Check.same("greatest", c.at(7, 7, 7), 999);
        Check.same("least", c.at(0, 7, 7), -999);
        Check.same("zero", c.at(7, 0, 7), 0);
        Check.same("saves nothing", c.count(8), 3);
    }

    @Sentence(of = "Promise 17", says = "Throws `IndexOutOfBoundsException` if there is no such point")
    static void promise17_noSuchPoint() {
        for (int side = 2; side <= 8; side++) {
            CubeSlices c = Cubes.with(side, "101=3");
            for (int k : Check.outside(0, side - 1)) {
                Check.noSuchIndex(c, "x " + k, () -> c.at(k, 0, 0));
                Check.noSuchIndex(c, "y " + k, () -> c.at(0, k, 0));
                Check.noSuchIndex(c, "z " + k, () -> c.at(0, 0, k));
            }
        }
    }

    // ---- promise 18: line

    @Sentence(of = "Promise 18", says = "Returns the sum of a line.")
    static void promise18_eachLine() {
        for (int side = 2; side <= 5; side++) {
            CubeSlices c = Cubes.counted(side);
            int coordinates = side * (side - 1) / 2;
            for (int axis = 0; axis < 3; axis++) {
                for (int i = 0; i < side * side; i++) {
                    int first = i % side;
                    int other = i / side;
                    int others = WEIGHTS[former(axis)] * first + WEIGHTS[latter(axis)] * other;
                    Check.same("line " + axis + first + other, c.line(axis, first, other),
                            WEIGHTS[axis] * coordinates + side * (others + 1));
                }
            }
        }
    }

    @Sentence(of = "Promise 18", says = {"0 to 2, the axis along which it goes",
        "- `first`: the former one of its other two coordinates", "- `other`: the latter one"})
    static void promise18_theAxisAndTheOtherTwo() {
        CubeSlices c = Cubes.with(8, "567=3");
        Check.same("along 0", c.line(0, 6, 7), 3);
        Check.same("along 0, changed about", c.line(0, 7, 6), 0);
        Check.same("along 1", c.line(1, 5, 7), 3);
        Check.same("along 1, changed about", c.line(1, 7, 5), 0);
        Check.same("along 2", c.line(2, 5, 6), 3);
        Check.same("along 2, changed about", c.line(2, 6, 5), 0);
    }

    @Sentence(of = "Promise 18", says = "Returns the sum of its numbers.")
    static void promise18_leastAndGreatestSum() {
        for (int side = 2; side <= 8; side++) {
            CubeSlices c = Cubes.zeros(side);
            Check.same("zeros", c.line(0, side - 1, side - 1), 0);
            c.add(0, 0, 0, side, 999);
            Check.same("greatest", c.line(1, 0, side - 1), 999 * side);
            c.begin(side);
            c.add(0, 0, 0, side, -999);
            Check.same("least", c.line(2, side - 1, 0), -999 * side);
            c.put(0, 0, 0, 999);
            Check.same("of both signs", c.line(0, 0, 0), -999 * (side - 2));
        }
    }

    @Sentence(of = "Promise 18", says = "Throws `IndexOutOfBoundsException` if there is no such coordinate")
    static void promise18_noSuchCoordinate() {
        for (int side = 2; side <= 8; side++) {
            CubeSlices c = Cubes.with(side, "111=1");
            for (int k : Check.outside(0, side - 1)) {
                for (int axis = 0; axis < 3; axis++) {
                    int a = axis;
                    Check.noSuchIndex(c, "axis " + a + ", first " + k, () -> c.line(a, k, 0));
                    Check.noSuchIndex(c, "axis " + a + ", other " + k, () -> c.line(a, 0, k));
                }
                Check.noSuchIndex(c, "both " + k, () -> c.line(0, k, k));
                Check.noSuchIndex(c, "a wrong axis too, first " + k, () -> c.line(3, k, 0));
                Check.noSuchIndex(c, "a wrong axis too, other " + k, () -> c.line(-1, 0, k));
            }
        }
    }

    @Sentence(of = "Promise 18", says = "Throws `IllegalArgumentException` if axis is out of range")
    static void promise18_axisOutOfRange() {
        CubeSlices c = Cubes.with(4, "111=1");
        for (int k : Check.outside(0, 2)) {
            Check.wrongArgument(c, "axis " + k, () -> c.line(k, 0, 0));
            Check.wrongArgument(c, "axis " + k + ", the last", () -> c.line(k, 3, 3));
        }
    }

    // ---- promise 19: slice

    @Sentence(of = "Promise 19", says = {"Returns something of a slice of any axis.", "Returns the number."})
    static void promise19_ofAnyAxis() {
        for (int axis = 0; axis < 3; axis++) {
            CubeSlices c = Cubes.with(4, "123=5 103=6");
            c.keep(axis);
            int[][] due = {{1, 2, 6, 6}, {2, 1, 5, 4}, {3, 2, 6, 6}};
            for (int asked = 0; asked < 3; asked++) {
                int at = due[asked][0];
                Check.same("numbers", c.slice(asked, at, 1), due[asked][1]);
                Check.same("sum", c.slice(asked, at, 0), due[asked][1] == 2 ? 11 : 5);
                Check.same("greatest", c.slice(asked, at, 2), due[asked][2]);
                Check.same("form", c.slice(asked, at, 3), 1);
                Check.same("room", c.slice(asked, at, 4), due[asked][1] == 2 ? 5 : 3);
            }
        }
    }

    @Sentence(of = "Promise 19", says = {"- `axis`: 0 to 2", "- `at`: its coordinate on the axis"})
    static void promise19_firstAndLastSliceOfEachAxis() {
        for (int side = 2; side <= 8; side++) {
            CubeSlices c = new CubeSlices();
            c.begin(side);
            int last = side - 1;
            for (int axis = 0; axis < 3; axis++) {
                int[] p = {last, last, last};
                p[axis] = 0;
                c.put(p[0], p[1], p[2], axis + 1);
            }
            for (int axis = 0; axis < 3; axis++) {
                Check.same("first", c.slice(axis, 0, 0), axis + 1);
                Check.same("last", c.slice(axis, last, 0), 6 - (axis + 1));
            }
        }
    }

    @Sentence(of = "Promise 19", says = "0: the sum of its numbers")
    static void promise19_sum() {
        for (int side = 2; side <= 5; side++) {
            CubeSlices c = Cubes.counted(side);
            int coordinates = side * side * (side - 1) / 2;
            for (int axis = 0; axis < 3; axis++) {
                for (int at = 0; at < side; at++) {
                    int others = WEIGHTS[former(axis)] + WEIGHTS[latter(axis)];
                    Check.same("axis " + axis + ", at " + at, c.slice(axis, at, 0),
                            side * side * (WEIGHTS[axis] * at + 1) + others * coordinates);
                }
            }
        }
        CubeSlices c = Cubes.zeros(8);
        Check.same("zeros", c.slice(1, 7, 0), 0);
        c.add(0, 0, 0, 8, 999);
        Check.same("greatest", c.slice(1, 7, 0), 64 * 999);
        c.begin(8);
        c.add(0, 0, 0, 8, -999);
        Check.same("least", c.slice(2, 0, 0), -64 * 999);
    }

    @Sentence(of = "Promise 19", says = "1: how many are other than 0")
    static void promise19_numbersOtherThan0() {
        CubeSlices c = Cubes.with(4, "000=1 030=-1 033=2");
        Check.same("numbers of the sum 2", c.slice(0, 0, 1), 3);
        Check.same("of the sum 0", c.slice(2, 0, 1), 2);
        Check.same("none", c.slice(0, 1, 1), 0);
        c.add(0, 0, 0, 4, 1);
        Check.same("one became 0", c.slice(0, 0, 1), 15);
        Check.same("all", c.slice(0, 1, 1), 16);
    }

    @Sentence(of = "Promise 19", says = "2: the greatest number")
    static void promise19_greatestNumber() {
        CubeSlices c = Cubes.with(4, "120=-5");
        Check.same("a 0 is above -5", c.slice(0, 1, 2), 0);
        c.add(0, 0, 0, 4, -7);
        Check.same("all below 0", c.slice(0, 1, 2), -7);
        c.put(1, 3, 3, -6);
        Check.same("the last point", c.slice(0, 1, 2), -6);
        c.put(1, 0, 0, 999);
        Check.same("the first point", c.slice(0, 1, 2), 999);
        Check.same("another slice", c.slice(0, 2, 2), -7);
        c.begin(2);
        c.add(0, 0, 0, 2, -999);
        Check.same("the least", c.slice(2, 1, 2), -999);
    }

    @Sentence(of = "Promise 19", says = {"3: its form, if the cube was kept by this axis: 0 empty, 1 listed, 2 full"})
    static void promise19_form() {
        CubeSlices c = Cubes.with(4, "000=1 100=1 200=1 300=1");
        Check.same("four by the axis 2", c.slice(2, 0, 3), 1);
        Check.same("empty", c.slice(2, 1, 3), 0);
        c.put(0, 1, 0, 1);
        Check.same("five by the axis 2", c.slice(2, 0, 3), 2);
        Check.same("four by the axis 1", c.slice(1, 0, 3), 1);
        Check.same("two by the axis 0", c.slice(0, 0, 3), 1);
        c.set(1);
        Check.same("two by the setting 1", c.slice(0, 0, 3), 2);
        Check.same("one by the setting 1", c.slice(0, 1, 3), 1);
    }

    @Sentence(of = "Promise 19", says = "4: the room that it would take by itself")
    static void promise19_roomByItself() {
        CubeSlices c = new CubeSlices();
        Check.same("empty, all others too", c.slice(0, 3, 4), 1);
        c.put(3, 0, 3, 1);
        Check.same("one", c.slice(2, 3, 4), 3);
        Check.same("empty, behind another one", c.slice(2, 1, 4), 1);
        c.put(0, 1, 3, 1);
        Check.same("offsets 3 and 4", c.slice(2, 3, 4), 4);
        c.put(2, 1, 3, 1);
        Check.same("and 6", c.slice(2, 3, 4), 6);
        c.put(0, 0, 3, -1);
        Check.same("and 0", c.slice(2, 3, 4), 8);
        c.put(1, 1, 3, 1);
        Check.same("full", c.slice(2, 3, 4), 17);
        c.set(5);
        Check.same("0, 3, 4, 5, 6 listed", c.slice(2, 3, 4), 8);
        Check.same("by the axis 1, offsets 12, 13, 14", c.slice(1, 1, 4), 5);
        Check.same("by the axis 0, offsets 12, 13", c.slice(0, 0, 4), 4);
        c.begin(8);
        c.set(64);
        c.add(0, 0, 0, 8, 1);
        Check.same("listed beyond the room of a full one", c.slice(0, 7, 4), 66);
    }

    @Sentence(of = "Promise 19", says = "Throws `IndexOutOfBoundsException` if there is no such coordinate")
    static void promise19_noSuchCoordinate() {
        for (int side = 2; side <= 8; side++) {
            CubeSlices c = Cubes.with(side, "111=1");
            for (int k : Check.outside(0, side - 1)) {
                for (int axis = 0; axis < 3; axis++) {
                    int a = axis;
                    Check.noSuchIndex(c, "axis " + a + ", at " + k, () -> c.slice(a, k, a + 2));
                }
                Check.noSuchIndex(c, "a wrong axis too, at " + k, () -> c.slice(3, k, 0));
                Check.noSuchIndex(c, "a wrong what too, at " + k, () -> c.slice(0, k, 5));
                Check.noSuchIndex(c, "all wrong, at " + k, () -> c.slice(-1, k, -1));
            }
        }
    }

    @Sentence(of = "Promise 19", says = "Throws `IllegalArgumentException` if axis or what is out of range")
    static void promise19_axisOrWhatOutOfRange() {
        CubeSlices c = Cubes.with(4, "111=1");
        for (int k : Check.outside(0, 2)) {
            Check.wrongArgument(c, "axis " + k, () -> c.slice(k, 0, 0));
            Check.wrongArgument(c, "axis " + k + ", the last", () -> c.slice(k, 3, 4));
        }
        for (int k : Check.outside(0, 4)) {
            Check.wrongArgument(c, "what " + k, () -> c.slice(0, 0, k));
            Check.wrongArgument(c, "what " + k + ", the last", () -> c.slice(2, 3, k));
            Check.wrongArgument(c, "axis and what " + k, () -> c.slice(3, 3, k));
        }
    }

    // ---- promise 20: ordered

    @Sentence(of = "Promise 20", says = "Returns a point in the order.")
    static void promise20_byEachAxis() {
        for (int axis = 0; axis < 3; axis++) {
            CubeSlices c = Cubes.counted(3);
            c.keep(axis);
            for (int rank = 0; rank < 27; rank++) {
                int[] p = new int[3];
                p[axis] = rank / 9;
                p[latter(axis)] = rank / 3 % 3;
                p[former(axis)] = rank % 3;
                for (int what = 0; what < 3; what++) {
                    Check.same("by " + axis + ", rank " + rank, c.ordered(rank, what), p[what]);
                }
                Check.same("by " + axis + ", rank " + rank, c.ordered(rank, 3), 1000 + Cubes.numberCounted(p));
            }
        }
    }

    @Sentence(of = "Promise 20", says = "- `rank`: its rank, from 0")
    static void promise20_firstAndLastRank() {
        CubeSlices c = Cubes.with(4, "321=5 120=7 222=-3");
        Check.same("the first", c.ordered(0, 3), 1007);
        Check.same("the second", c.ordered(1, 3), 1005);
        Check.same("the last", c.ordered(2, 3), 997);
        c.begin(8);
        c.add(0, 0, 0, 8, 1);
        Check.same("rank 511", c.ordered(511, 0), 7);
        Check.same("rank 510", c.ordered(510, 0), 6);
    }

    @Sentence(of = "Promise 20", says = {"- `what`: 0: x", "1: y", "2: z", "3: its number, plus 1000"})
    static void promise20_eachWhat() {
        CubeSlices c = Cubes.with(8, "567=-999 577=999");
        for (int axis = 0; axis < 3; axis++) {
            c.keep(axis);
            Check.same("x", c.ordered(0, 0), 5);
            Check.same("y", c.ordered(0, 1), 6);
            Check.same("z", c.ordered(0, 2), 7);
            Check.same("the least number", c.ordered(0, 3), 1);
            Check.same("the greatest number", c.ordered(1, 3), 1999);
        }
        c.begin(2);
        c.put(0, 0, 0, 1);
        Check.same("x 0", c.ordered(0, 0), 0);
        Check.same("y 0", c.ordered(0, 1), 0);
        Check.same("z 0", c.ordered(0, 2), 0);
    }

    @Sentence(of = "Promise 20", says = "NONE if there are not so many points other than 0.")
    static void promise20_notSoManyPoints() {
        for (int points = 0; points <= 64; points += 16) {
            CubeSlices c = new CubeSlices();
            for (int i = 0; i < points; i++) {
                c.put(i % 4, i / 4 % 4, i / 16, -1);
            }
            for (int what = 0; what < 4; what++) {
                Check.same("one too many", c.ordered(points, what), CubeSlices.NONE);
                Check.same("one more", c.ordered(points + 1, what), CubeSlices.NONE);
                Check.same("by far", c.ordered(MOST, what), CubeSlices.NONE);
                if (points > 0) {
                    Check.isTrue("the last one is there", c.ordered(points - 1, what) != CubeSlices.NONE);
                }
            }
        }
    }

    @Sentence(of = "Promise 20", says = "Returns the number")
    static void promise20_zerosAreNotInTheOrder() {
        CubeSlices c = Cubes.with(4, "000=1 100=2 200=3");
        c.put(1, 0, 0, 0);
        Check.same("the second", c.ordered(1, 3), 1003);
        Check.same("no third", c.ordered(2, 3), CubeSlices.NONE);
    }

    @Sentence(of = "Promise 20",
            says = "Throws `IllegalArgumentException` if rank is below 0, or what is not 0 to 3")
    static void promise20_rankBelow0OrWhatOutOfRange() {
        CubeSlices c = Cubes.with(4, "111=1");
        for (int k : new int[] {-1, -2, Integer.MIN_VALUE}) {
            Check.wrongArgument(c, "rank " + k, () -> c.ordered(k, 0));
            Check.wrongArgument(c, "rank " + k, () -> c.ordered(k, 3));
        }
        for (int k : Check.outside(0, 3)) {
            Check.wrongArgument(c, "what " + k, () -> c.ordered(0, k));
            Check.wrongArgument(c, "what " + k + ", no such point", () -> c.ordered(1, k));
            Check.wrongArgument(c, "what " + k + ", no rank", () -> c.ordered(-1, k));
            Check.wrongArgument(c, "what " + k + ", the greatest rank", () -> c.ordered(MOST, k));
        }
    }

    // ---- promise 21: difference

    @Sentence(of = "Promise 21", says = "Tells about differences from the mark.")
    static void promise21_noneOrAll() {
        CubeSlices c = Cubes.with(8, "777=5");
        c.mark();
        int[] none = {0, 0, 0, -1};
        int[] all = {512, 512 * 2, 2, 0};
        for (int what = 0; what < 4; what++) {
            Check.same("none, " + what, c.difference(what), none[what]);
        }
        c.add(0, 0, 0, 8, 2);
        for (int what = 0; what < 4; what++) {
            Check.same("all, " + what, c.difference(what), all[what]);
        }
    }

    @Sentence(of = "Promise 21", says = "0: points with a difference other than 0, how many")
    static void promise21_howMany() {
        CubeSlices c = Cubes.with(4, "000=5 333=-5");
        c.mark();
        Cubes.putAll(c, "000=0 333=5 111=5");
        Check.same("to 0, to the negative, from 0", c.difference(0), 3);
        c.put(0, 0, 0, 5);
        Check.same("as it was", c.difference(0), 2);
    }

    @Sentence(of = "Promise 21", says = "1: the sum of all differences")
    static void promise21_sum() {
        CubeSlices c = Cubes.with(4, "000=5 333=-5");
        c.mark();
        Cubes.putAll(c, "000=6 333=-9");
        Check.same("below 0", c.difference(1), 1 - 4);
        c.put(1, 1, 1, 3);
        Check.same("to 0", c.difference(1), 0);
        c.begin(8);
        c.add(0, 0, 0, 8, -999);
        c.mark();
        c.add(0, 0, 0, 8, 999);
        c.add(0, 0, 0, 8, 999);
        Check.same("greatest", c.difference(1), 512 * 1998);
        c.mark();
        c.add(0, 0, 0, 8, -999);
        c.add(0, 0, 0, 8, -999);
        Check.same("least", c.difference(1), -512 * 1998);
    }

    @Sentence(of = "Promise 21", says = "2: the greatest size of one")
    static void promise21_greatestSize() {
        CubeSlices c = Cubes.with(4, "000=5 333=-999");
        c.mark();
        c.put(0, 0, 0, 2);
        Check.same("of one below 0", c.difference(2), 3);
        c.put(1, 1, 1, 2);
        Check.same("of two", c.difference(2), 3);
        c.put(3, 3, 3, 999);
        Check.same("the greatest", c.difference(2), 1998);
        c.mark();
        c.put(3, 3, 3, -999);
        Check.same("the greatest below 0", c.difference(2), 1998);
    }

    @Sentence(of = "Promise 21", says = {"3: the rank, among all points by x plus the side times y plus the square of "
            + "the side times z, of the first point with a difference, NONE without one"})
    static void promise21_rankOfTheFirst() {
        for (int side = 2; side <= 8; side++) {
            for (int axis = 0; axis < 3; axis++) {
                CubeSlices c = Cubes.zeros(side);
                c.keep(axis);
                int last = side - 1;
                Check.same("none", c.difference(3), CubeSlices.NONE);
                c.put(last, last, last, 1);
                Check.same("the last", c.difference(3), side * side * side - 1);
                c.put(0, 1, 1, -1);
                Check.same("before it", c.difference(3), side + side * side);
                c.put(1, 0, 1, -1);
                Check.same("before that", c.difference(3), 1 + side * side);
                c.put(0, 1, 0, 1);
                Check.same("before that", c.difference(3), side);
                c.put(1, 0, 0, 1);
                Check.same("before that", c.difference(3), 1);
                c.put(0, 0, 0, 1);
                Check.same("the first", c.difference(3), 0);
                c.mark();
                Check.same("none again", c.difference(3), CubeSlices.NONE);
                c.put(0, 1, 0, 0);
                Check.same("to 0", c.difference(3), side);
            }
        }
    }

    @Sentence(of = "Promise 21", says = "Returns the number.")
    static void promise21_ofThreePoints() {
        CubeSlices c = Cubes.with(4, "231=999 333=-5");
        c.mark();
        Cubes.putAll(c, "231=-999 333=6 002=7");
        Check.same("points", c.difference(0), 3);
        Check.same("sum", c.difference(1), -1998 + 11 + 7);
        Check.same("greatest size", c.difference(2), 1998);
        Check.same("first", c.difference(3), 2 + 4 * 3 + 16);
    }

    @Sentence(of = "Promise 21", says = "Throws `IllegalArgumentException` if what is not 0 to 3")
    static void promise21_whatOutOfRange() {
        CubeSlices c = Cubes.with(4, "111=1");
        for (int k : Check.outside(0, 3)) {
            Check.wrongArgument(c, "what " + k, () -> c.difference(k));
        }
    }

    // ---- promise 22: count

    @Sentence(of = "Promise 22", says = {"Returns a number.", "Returns the number."})
    static void promise22_eachWhat() {
        CubeSlices c = Cubes.zeros(5);
        c.keep(1);
        c.put(0, 1, 0, 999);
        for (int x = 0; x < 5; x++) {
            c.put(x, 4, 4, -1);
        }
        int[] due = {5, 1, 6, 994, 1 + 3 + 1 + 26, 3, 1, 1, 6};
        for (int what = 0; what <= 8; what++) {
            Check.same("count " + what, c.count(what), due[what]);
        }
    }

    @Sentence(of = "Promise 22", says = "0: the side")
    static void promise22_side() {
        CubeSlices c = new CubeSlices();
        Check.same("the first", c.count(0), 4);
        for (int side = 2; side <= 8; side++) {
            c.begin(side);
            Check.same("side", c.count(0), side);
        }
    }

    @Sentence(of = "Promise 22", says = "1: the axis by which the cube is kept")
    static void promise22_axis() {
        CubeSlices c = new CubeSlices();
        Check.same("the first", c.count(1), 2);
        for (int axis = 0; axis < 3; axis++) {
            c.keep(axis);
            Check.same("axis", c.count(1), axis);
        }
    }

    @Sentence(of = "Promise 22", says = "2: numbers other than 0")
    static void promise22_numbersOtherThan0() {
        for (int side = 2; side <= 8; side++) {
            CubeSlices c = Cubes.zeros(side);
            int last = side - 1;
            Check.same("none", c.count(2), 0);
            c.put(0, 0, 0, 5);
            c.put(last, last, last, -5);
            Check.same("two of the sum 0", c.count(2), 2);
            c.put(0, 0, 0, 0);
            Check.same("the last", c.count(2), 1);
            c.add(0, 0, 0, side, 5);
            Check.same("all but the last", c.count(2), side * side * side - 1);
            c.add(0, 0, 0, side, 1);
            Check.same("all", c.count(2), side * side * side);
        }
    }

    @Sentence(of = "Promise 22", says = "3: the sum of all numbers")
    static void promise22_sumOfAllNumbers() {
        for (int side = 2; side <= 8; side++) {
            CubeSlices c = Cubes.zeros(side);
            int points = side * side * side;
            int last = side - 1;
            Check.same("zeros", c.count(3), 0);
            c.put(last, last, last, -999);
            Check.same("the last", c.count(3), -999);
            c.put(0, 0, 0, 999);
            Check.same("to 0", c.count(3), 0);
            c.begin(side);
            c.add(0, 0, 0, side, 999);
            Check.same("greatest", c.count(3), 999 * points);
            c.begin(side);
            c.add(0, 0, 0, side, -999);
            Check.same("least", c.count(3), -999 * points);
        }
    }

    @Sentence(of = "Promise 22", says = "4: the room that the cube takes")
    static void promise22_room() {
        for (int side = 2; side <= 8; side++) {
            CubeSlices c = Cubes.zeros(side);
            Check.same("empty", c.count(4), 1);
            c.put(0, 0, 0, 1);
            Check.same("the first slice", c.count(4), 3 + 1);
            c.put(0, 0, side - 1, 1);
            Check.same("the last too", c.count(4), side == 2 ? 3 + 3 : 3 + 1 + 3);
            c.add(0, 0, 0, side, 1);
            Check.same("full", c.count(4), side == 2 ? 2 * (1 + 2 + 3) : side * (1 + side * side));
        }
    }

    @Sentence(of = "Promise 22", says = "5 to 7: slices, by this axis, that are empty, listed, full")
    static void promise22_slicesByForm() {
        CubeSlices c = Cubes.zeros(8);
        meetForms("zeros", c, 8, 0, 0);
        Cubes.putAll(c, "077=1 177=1 277=1 377=1 477=1");
        meetForms("by the axis 2", c, 7, 0, 1);
        c.keep(1);
        meetForms("by the axis 1", c, 7, 0, 1);
        c.keep(0);
        meetForms("by the axis 0", c, 3, 5, 0);
        c.keep(2);
        c.set(5);
        meetForms("five are listed", c, 7, 1, 0);
        c.add(0, 0, 0, 8, 1);
        meetForms("full", c, 0, 0, 8);
        c.set(64);
        meetForms("all listed", c, 0, 8, 0);
    }

    private static void meetForms(String run, CubeSlices c, int empty, int listed, int full) {
        Check.same(run + ": empty", c.count(5), empty);
        Check.same(run + ": listed", c.count(6), listed);
        Check.same(run + ": full", c.count(7), full);
    }

    @Sentence(of = "Promise 22", says = "8: saved states")
    static void promise22_savedStates() {
        CubeSlices c = new CubeSlices();
        Check.same("none", c.count(8), 0);
        for (int calls = 1; calls <= 8; calls++) {
            c.turn();
            Check.same("saved", c.count(8), Math.min(calls, 6));
        }
        c.undo();
        Check.same("one less", c.count(8), 5);
        Cubes.undoTimes(c, 5);
        Check.same("none", c.count(8), 0);
    }

    @Sentence(of = "Promise 22", says = "Throws `IllegalArgumentException` if what is not 0 to 8")
    static void promise22_whatOutOfRange() {
        CubeSlices c = Cubes.with(4, "111=1");
        for (int k : Check.outside(0, 8)) {
            Check.wrongArgument(c, "what " + k, () -> c.count(k));
        }
    }
}
