/** Promises 23 to 28: a test for each sentence, and for each edge that it names. */
public final class WouldBeTest {
    /** The document's words by hand: 214 values of a cube of zeros, without a call of the class. */
    private static final long NEW_DIGEST = 3732088261223964358L;

    public static void main(String[] args) {
        Check.sentences(WouldBeTest.class);
    }

    // ---- promise 23: ifKept

    @Sentence(of = "Promise 23", says = "Tells what room the cube would take by an axis.")
    static void promise23_isNotKeptByIt() {
        CubeSlices c = Cubes.with(4, "000=1 100=1 300=1");
        Check.same("by 0", c.ifKept(0), 3 + 3 + 1 + 3);
        Check.same("the axis stays", c.count(1), 2);
        Check.same("the room stays", c.count(4), 6 + 1);
        Check.same("nothing is saved", c.count(8), 4);
    }

    @Sentence(of = "Promise 23", says = {"- `axis`: 0 to 2", "Returns the room."})
    static void promise23_roomByEachAxis() {
        CubeSlices c = Cubes.with(4, "000=1 100=1 300=1 033=1");
        for (int kept = 0; kept < 3; kept++) {
            c.keep(kept);
            Check.same("by 0", c.ifKept(0), 1 + 2 + 2 + 3 + 1 + 3);
            Check.same("by 1", c.ifKept(1), 6 + 1 + 3);
            Check.same("by 2", c.ifKept(2), 6 + 1 + 3);
        }
        c.set(2);
        Check.same("by the setting", c.ifKept(2), 17 + 1 + 3);
        c.begin(8);
        Check.same("empty", c.ifKept(0), 1);
        c.add(0, 0, 0, 8, -1);
        Check.same("full", c.ifKept(1), 8 * 65);
    }

    @Sentence(of = "Promise 23", says = "Throws `IllegalArgumentException` if axis is out of range")
    static void promise23_axisOutOfRange() {
        CubeSlices c = Cubes.with(4, "111=1");
        for (int k : Check.outside(0, 2)) {
            Check.wrongArgument(c, "axis " + k, () -> c.ifKept(k));
        }
    }

    // ---- promise 24: ifPut

    @Sentence(of = "Promise 24", says = "Tells what putting a number would bring.")
    static void promise24_isNotPut() {
        CubeSlices c = Cubes.with(4, "123=5");
        c.mark();
        long before = c.digest();
        Check.same("room", c.ifPut(0, 0, 0, 7, 0), 3 + 1 + 3);
        Check.same("form", c.ifPut(1, 2, 3, 0, 1), 0);
        Check.same("not put", c.at(0, 0, 0), 0);
        Check.same("not taken away", c.at(1, 2, 3), 5);
        Check.same("nothing else", c.digest(), before);
    }

    @Sentence(of = "Promise 24", says = {"- `x`: a coordinate", "- `y`: a coordinate", "- `z`: a coordinate"})
    static void promise24_eachCorner() {
        for (int side = 2; side <= 8; side++) {
            CubeSlices c = Cubes.zeros(side);
            for (int[] p : Cubes.corners(side)) {
                Check.same("room", c.ifPut(p[0], p[1], p[2], 1, 0), 3 + 1);
                Check.same("form", c.ifPut(p[0], p[1], p[2], 1, 1), 1);
                Check.same("form", c.ifPut(p[0], p[1], p[2], 0, 1), 0);
            }
        }
    }

    @Sentence(of = "Promise 24", says = "- `number`: -999 to 999")
    static void promise24_leastAndGreatestNumber() {
        CubeSlices c = new CubeSlices();
        Check.same("least", c.ifPut(3, 3, 1, -999, 0), 1 + 3 + 1);
        Check.same("greatest", c.ifPut(3, 3, 1, 999, 0), 1 + 3 + 1);
        Check.same("zero", c.ifPut(3, 3, 1, 0, 0), 1);
    }

    @Sentence(of = "Promise 24", says = "0: the room then")
    static void promise24_roomThen() {
        CubeSlices c = Cubes.with(4, "001=1 101=1");
        c.set(2);
        Check.same("one more is full", c.ifPut(2, 0, 1, 9, 0), 1 + 17 + 1);
        Check.same("another number there", c.ifPut(1, 0, 1, 9, 0), 1 + 4 + 1);
        Check.same("one less", c.ifPut(1, 0, 1, 0, 0), 1 + 3 + 1);
        Check.same("another slice", c.ifPut(3, 3, 3, -9, 0), 1 + 4 + 1 + 3);
        Check.same("the slice ahead", c.ifPut(0, 0, 0, 9, 0), 3 + 4 + 1);
        Check.same("a 0 for a 0", c.ifPut(0, 0, 0, 0, 0), 1 + 4 + 1);
        c.put(1, 0, 1, 0);
        Check.same("none is left", c.ifPut(0, 0, 1, 0, 0), 1);
        c.keep(0);
        Check.same("by the axis kept, offsets 4 and 5", c.ifPut(0, 1, 1, 1, 0), 4 + 1);
    }

    @Sentence(of = "Promise 24",
            says = "1: the form of the slice of the point then, by the axis by which the cube is kept")
    static void promise24_formThen() {
        CubeSlices c = Cubes.with(4, "001=1 101=1");
        c.set(2);
        Check.same("full", c.ifPut(2, 0, 1, 9, 1), 2);
        Check.same("another number there", c.ifPut(1, 0, 1, -9, 1), 1);
        Check.same("listed", c.ifPut(1, 0, 1, 0, 1), 1);
        Check.same("another slice", c.ifPut(3, 3, 3, 9, 1), 1);
        Check.same("empty", c.ifPut(3, 3, 3, 0, 1), 0);
        c.keep(0);
        Check.same("by the axis 0, the last of its slice", c.ifPut(1, 0, 1, 0, 1), 0);
        Check.same("by the axis 0, one more", c.ifPut(1, 3, 2, 8, 1), 1);
        c.keep(1);
        Check.same("by the axis 1, one more", c.ifPut(3, 0, 3, 8, 1), 2);
        Check.same("by the axis 1, another slice", c.ifPut(0, 3, 0, 8, 1), 1);
    }

    @Sentence(of = "Promise 24", says = "Returns the number.")
    static void promise24_fromFullToListedAndBack() {
        CubeSlices c = Cubes.with(4, "000=1 100=1 200=1 300=1 010=1");
        Check.same("five are full", c.count(4), 17 + 1);
        Check.same("four of a row are listed", c.ifPut(0, 1, 0, 0, 0), 6 + 1);
        Check.same("four of a row are listed", c.ifPut(0, 1, 0, 0, 1), 1);
        Check.same("one, and three of a row", c.ifPut(1, 0, 0, 0, 0), 1 + 2 + 2 + 1 + 1 + 1);
        Check.same("six are full", c.ifPut(3, 3, 0, 1, 1), 2);
    }

    @Sentence(of = "Promise 24", says = "Throws `IndexOutOfBoundsException` if there is no such point")
    static void promise24_noSuchPoint() {
        for (int side = 2; side <= 8; side++) {
            CubeSlices c = Cubes.with(side, "101=3");
            for (int k : Check.outside(0, side - 1)) {
                Check.noSuchIndex(c, "x " + k, () -> c.ifPut(k, 0, 0, 1, 0));
                Check.noSuchIndex(c, "y " + k, () -> c.ifPut(0, k, 0, 1, 1));
                Check.noSuchIndex(c, "z " + k, () -> c.ifPut(0, 0, k, 1, 0));
                Check.noSuchIndex(c, "a wrong number too, x " + k, () -> c.ifPut(k, 0, 0, 1000, 0));
                Check.noSuchIndex(c, "a wrong what too, y " + k, () -> c.ifPut(0, k, 0, 1, 2));
                Check.noSuchIndex(c, "all wrong, z " + k, () -> c.ifPut(0, 0, k, -1000, -1));
            }
        }
    }

    @Sentence(of = "Promise 24", says = "Throws `IllegalArgumentException` if number or what is out of range")
    static void promise24_numberOrWhatOutOfRange() {
        CubeSlices c = Cubes.with(4, "000=3");
        for (int k : Check.outside(-999, 999)) {
            Check.wrongArgument(c, "number " + k, () -> c.ifPut(0, 0, 0, k, 0));
            Check.wrongArgument(c, "number " + k + ", the last", () -> c.ifPut(3, 3, 3, k, 1));
        }
        for (int k : Check.outside(0, 1)) {
            Check.wrongArgument(c, "what " + k, () -> c.ifPut(0, 0, 0, 1, k));
            Check.wrongArgument(c, "what " + k + " and a number", () -> c.ifPut(3, 3, 3, 1000, k));
        }
    }

    // ---- promise 25: best

    private static void meetBest(String run, CubeSlices c, int axis, int setting, int room) {
        Check.same(run + ": axis", c.best(0), axis);
        Check.same(run + ": setting", c.best(1), setting);
        Check.same(run + ": room", c.best(2), room);
    }

    @Sentence(of = "Promise 25", says = {"Finds the best axis and setting.",
        "0: the axis, 1: the setting 0, 2: the room, of the ones with which the cube takes the least room"})
    static void promise25_eachAxis() {
        CubeSlices c = Cubes.with(4, "020=1 120=1 220=1");
        meetBest("a row along x, between", c, 2, 3, 5 + 1);
        c.shift(1);
        meetBest("a row along x, at the end", c, 1, 3, 1 + 5);
        c.turn();
        meetBest("a row along y", c, 0, 3, 5 + 1);
        Check.same("the axis stays", c.count(1), 2);
        Check.same("the setting stays", c.set(1), 4);
        c.keep(1);
        meetBest("by another axis and setting, the same", c, 0, 3, 5 + 1);
    }

    @Sentence(of = "Promise 25", says = "of the ones with which the cube takes the least room")
    static void promise25_emptyAndFull() {
        for (int side = 2; side <= 8; side++) {
            CubeSlices c = Cubes.zeros(side);
            c.keep(2);
            meetBest("zeros", c, 0, 1, 1);
            c.add(0, 0, 0, side, 1);
            meetBest("all of them", c, 0, 1, side * (side * side + 1));
        }
    }

    /** A slice that is all but full takes less room if it is listed, as long as its numbers follow one another. */
    @Sentence(of = "Promise 25", says = "of the ones with which the cube takes the least room")
    static void promise25_listedOrFull() {
        CubeSlices c = Cubes.zeros(8);
        for (int i = 0; i < 62; i++) {
            c.put(i % 8, i / 8, 0, 1);
        }
        meetBest("62 in a slice", c, 2, 62, 1 + 63 + 1);
        c.put(6, 7, 0, 1);
        meetBest("63 take as much room listed as full", c, 2, 1, 65 + 1);
        c.put(7, 7, 0, 1);
        meetBest("64 take more room listed than full", c, 2, 1, 65 + 1);
        CubeSlices d = Cubes.with(2, "000=1 110=1");
        meetBest("one in each slice, as much as a full one", d, 0, 1, 3 + 3);
        d.put(0, 1, 0, 1);
        meetBest("a full one, less than two listed ones", d, 2, 1, 5 + 1);
    }

    @Sentence(of = "Promise 25", says = "of several the ones with the lowest axis")
    static void promise25_theLowestAxis() {
        CubeSlices c = Cubes.with(4, "000=1");
        c.keep(2);
        meetBest("a corner", c, 0, 1, 3 + 1);
        c.begin(4);
        Cubes.putAll(c, "000=1 010=1 020=1 030=1");
        meetBest("a row along y, by 0 or 2", c, 0, 4, 6 + 1);
        c.begin(4);
        Cubes.putAll(c, "000=1 100=1 200=1 300=1");
        meetBest("a row along x, by 1 or 2", c, 1, 4, 6 + 1);
    }

    @Sentence(of = "Promise 25", says = "then the lowest setting")
    static void promise25_theLowestSetting() {
        CubeSlices c = Cubes.with(8, "000=1");
        c.set(64);
        meetBest("one", c, 0, 1, 3 + 1);
        c.put(0, 1, 0, 1);
        meetBest("two", c, 0, 2, 4 + 1);
        c.put(0, 3, 0, 1);
        meetBest("three, whatever the setting beyond", c, 0, 3, 6 + 1);
        CubeSlices d = Cubes.zeros(8);
        d.add(0, 0, 0, 8, 1);
        d.wipe(0, 7);
        meetBest("by 0 seven full ones, listed ones would take more", d, 0, 1, 7 * 65 + 1);
    }

    @Sentence(of = "Promise 25", says = "Returns the number.")
    static void promise25_isTheRoomThen() {
        CubeSlices c = Cubes.with(5, "000=1 300=2 310=3 344=4 143=5 121=6");
        int room = c.best(2);
        int setting = c.best(1);
        c.keep(c.best(0));
        c.set(setting);
        Check.same("set so", c.count(4), room);
        for (int axis = 0; axis < 3; axis++) {
            for (int numbers = 1; numbers <= 64; numbers++) {
                c.set(numbers);
                Check.isTrue("no less by " + axis + ", " + numbers, c.ifKept(axis) >= room);
            }
        }
    }

    @Sentence(of = "Promise 25", says = "Throws `IllegalArgumentException` if what is not 0 to 2")
    static void promise25_whatOutOfRange() {
        CubeSlices c = Cubes.with(4, "111=1");
        for (int k : Check.outside(0, 2)) {
            Check.wrongArgument(c, "what " + k, () -> c.best(k));
        }
    }

    // ---- promise 26: heaviest

    private static void meetHeaviest(String run, CubeSlices c, int axis, int former, int latter, int sum) {
        Check.same(run + ": axis", c.heaviest(0), axis);
        Check.same(run + ": former", c.heaviest(1), former);
        Check.same(run + ": latter", c.heaviest(2), latter);
        Check.same(run + ": sum", c.heaviest(3), sum + 10000);
    }

    @Sentence(of = "Promise 26", says = {"Finds the heaviest line.",
        "0: its axis, 1: its former other coordinate, 2: the latter one, 3: its sum, plus 10000"})
    static void promise26_alongEachAxis() {
        CubeSlices c = Cubes.with(4, "123=7");
        meetHeaviest("along 0", c, 0, 2, 3, 7);
        c.put(1, 0, 3, 1);
        meetHeaviest("along 1", c, 1, 1, 3, 8);
        c.put(1, 2, 0, 2);
        meetHeaviest("along 2", c, 2, 1, 2, 9);
        c.put(3, 2, 3, 3);
        meetHeaviest("along 0 again", c, 0, 2, 3, 10);
    }

    @Sentence(of = "Promise 26", says = "3: its sum, plus 10000")
    static void promise26_leastAndGreatestSum() {
        for (int side = 2; side <= 8; side++) {
            CubeSlices c = Cubes.zeros(side);
            int last = side - 1;
            meetHeaviest("zeros", c, 0, 0, 0, 0);
            c.add(0, 0, 0, side, 999);
            meetHeaviest("the greatest", c, 0, 0, 0, 999 * side);
            c.begin(side);
            c.add(0, 0, 0, side, -999);
            meetHeaviest("the least", c, 0, 0, 0, -999 * side);
            c.put(last, last, last, -998);
            meetHeaviest("the last point", c, 0, last, last, -999 * side + 1);
        }
    }

    @Sentence(of = "Promise 26", says = "of the line with the greatest sum")
    static void promise26_theSumNotTheSize() {
        CubeSlices c = Cubes.with(4, "000=-999 333=1");
        meetHeaviest("1 is more than -999", c, 0, 3, 3, 1);
        Cubes.putAll(c, "322=999 312=-999 302=2");
        meetHeaviest("999 by itself", c, 0, 2, 2, 999);
        c.put(1, 2, 2, -998);
        meetHeaviest("999 in another line", c, 2, 3, 2, 999);
    }

    @Sentence(of = "Promise 26", says = "of several the one with the lowest axis")
    static void promise26_theLowestAxis() {
        CubeSlices c = Cubes.with(4, "333=9");
        meetHeaviest("of three", c, 0, 3, 3, 9);
        c.put(0, 3, 3, -1);
        meetHeaviest("of two", c, 1, 3, 3, 9);
        c.put(3, 0, 3, -1);
        meetHeaviest("the last", c, 2, 3, 3, 9);
        c.put(0, 0, 0, 9);
        meetHeaviest("a lower axis", c, 0, 0, 0, 9);
    }

    @Sentence(of = "Promise 26", says = "then the lowest former")
    static void promise26_theLowestFormer() {
        CubeSlices c = Cubes.with(4, "023=9 032=9");
        meetHeaviest("along 0", c, 0, 2, 3, 9);
        CubeSlices d = Cubes.with(4, "103=5 133=5 301=5 331=5");
        meetHeaviest("along 1", d, 1, 1, 3, 10);
        CubeSlices e = Cubes.with(4, "120=5 123=5 210=5 213=5");
        meetHeaviest("along 2", e, 2, 1, 2, 10);
    }

    @Sentence(of = "Promise 26", says = "then the lowest latter coordinate.")
    static void promise26_theLowestLatter() {
        CubeSlices c = Cubes.with(4, "023=9 022=9");
        c.put(0, 0, 2, -1);
        c.put(0, 0, 3, -1);
        c.put(0, 2, 1, -9);
        meetHeaviest("along 0", c, 0, 2, 2, 9);
        CubeSlices d = Cubes.with(4, "203=5 233=5 201=5 221=5");
        meetHeaviest("along 1", d, 1, 2, 1, 10);
        CubeSlices e = Cubes.with(4, "220=5 223=5 211=5 212=5");
        meetHeaviest("along 2", e, 2, 2, 1, 10);
    }

    @Sentence(of = "Promise 26", says = "Throws `IllegalArgumentException` if what is not 0 to 3")
    static void promise26_whatOutOfRange() {
        CubeSlices c = Cubes.with(4, "111=1");
        for (int k : Check.outside(0, 3)) {
            Check.wrongArgument(c, "what " + k, () -> c.heaviest(k));
        }
    }

    // ---- promise 27: roomShare

    @Sentence(of = "Promise 27", says = {"Returns how much room is saved.",
        "Returns the room that the cube takes, as a double, divided by that which it would take"})
    static void promise27_emptyListedFull() {
        CubeSlices c = new CubeSlices();
        Check.sameShare("zeros", c.roomShare(), 1.0 / 68);
        c.put(0, 0, 0, 1);
        Check.sameShare("one", c.roomShare(), 4.0 / 68);
        c.add(0, 0, 0, 4, 1);
        Check.sameShare("full", c.roomShare(), 1);
        c.set(64);
        Check.sameShare("above 1", c.roomShare(), 4 * 18.0 / 68);
    }

    @Sentence(of = "Promise 27", says = "if all slices were full")
    static void promise27_eachSide() {
        int[] full = {10, 30, 68, 130, 222, 350, 520};
        for (int side = 2; side <= 8; side++) {
            CubeSlices c = Cubes.zeros(side);
            Check.sameShare("zeros", c.roomShare(), 1.0 / full[side - 2]);
            c.put(0, side - 1, 1, 1);
            c.keep(1);
            Check.sameShare("one, by the axis 1", c.roomShare(), 4.0 / full[side - 2]);
            c.keep(2);
            Check.sameShare("one, by the axis 2", c.roomShare(), (side == 2 ? 4.0 : 5.0) / full[side - 2]);
            Check.same("saves nothing", c.count(8), 4);
        }
    }

    // ---- promise 28: digest

    /** Makes one state again and again, since a large cube has more values than an object serves calls. */
    private interface Maker {
        CubeSlices make();
    }

    private static final class Hash {
        private long hash = 2861;

        private void take(long value) {
            hash = 31 * hash + value;
        }
    }

    /** The hash by the document's words, from what the other methods answer. */
    private static long hashOf(Maker maker, int setting, String buffer) {
        CubeSlices c = maker.make();
        Hash h = new Hash();
        for (int what = 0; what <= 8; what++) {
            h.take(c.count(what));
        }
        h.take(setting);
        takeNumbers(h, maker, c.count(0));
        takeSlicesAndLines(h, c, c.count(0));
        for (int rank : new int[] {0, 1, 5}) {
            for (int what = 0; what <= 3; what++) {
                h.take(c.ordered(rank, what));
            }
        }
        for (int what = 0; what <= 3; what++) {
            h.take(c.difference(what));
        }
        takeWhatWouldBe(h, c);
        h.take(Double.doubleToLongBits(c.roomShare()));
        h.take(buffer.length());
        for (char code : buffer.toCharArray()) {
            h.take(code);
        }
        return h.hash;
    }

    private static void takeNumbers(Hash h, Maker maker, int side) {
        for (int z = 0; z < side; z++) {
            CubeSlices c = maker.make();
            for (int y = 0; y < side; y++) {
                for (int x = 0; x < side; x++) {
                    h.take(c.at(x, y, z));
                }
            }
        }
    }

    private static void takeSlicesAndLines(Hash h, CubeSlices c, int side) {
        for (int axis = 0; axis < 3; axis++) {
            for (int at = 0; at < side; at++) {
                for (int what = 0; what <= 4; what++) {
                    h.take(c.slice(axis, at, what));
                }
            }
        }
        for (int axis = 0; axis < 3; axis++) {
            for (int former = 0; former < side; former++) {
                for (int latter = 0; latter < side; latter++) {
                    h.take(c.line(axis, former, latter));
                }
            }
        }
    }

    private static void takeWhatWouldBe(Hash h, CubeSlices c) {
        for (int axis = 0; axis < 3; axis++) {
            h.take(c.ifKept(axis));
        }
        h.take(c.ifPut(0, 1, 0, 7, 0));
        h.take(c.ifPut(0, 1, 0, 7, 1));
        h.take(c.ifPut(0, 1, 0, 0, 0));
        h.take(c.ifPut(0, 1, 0, 0, 1));
        for (int what = 0; what <= 2; what++) {
            h.take(c.best(what));
        }
        for (int what = 0; what <= 3; what++) {
            h.take(c.heaviest(what));
        }
    }

    private static void meetHash(String run, Maker maker, int setting, String buffer) {
        Check.same(run, maker.make().digest(), hashOf(maker, setting, buffer));
    }

    private static CubeSlices filled(int side, int axis, int setting, String buffer) {
        CubeSlices c = Cubes.counted(side);
        c.mark();
        c.put(1, 0, 1, -77);
        c.wipe(axis, side - 1);
        c.put(side - 1, side - 1, side - 1, 999);
        c.keep(axis);
        c.set(setting);
        c.undo();
        c.set(setting);
        Cubes.tell(c, buffer);
        return c;
    }

    @Sentence(of = "Promise 28", says = {"Computes a hash of the whole state.", "The hash starts at 2861."})
    static void promise28_ofANewObject() {
        Check.same("worked out apart from the class", new CubeSlices().digest(), NEW_DIGEST);
        meetHash("from the other answers", () -> new CubeSlices(), 4, "");
    }

    @Sentence(of = "Promise 28", says = {"The values are: count(0) to count(8)", "the setting 0",
        "for each point, by z, then y, then x, its number",
        "for each axis, and each coordinate on it, slice with 0 to 4",
        "for each axis, and each two other coordinates, by the former and then the latter one, the sum of the line",
        "ordered of 0, 1 and 5, each with 0 to 3", "difference with 0 to 3", "ifKept of each axis",
        "ifPut of the point 0, 1, 0 with 7, and with 0, each with 0 and 1", "best with 0 to 2",
        "heaviest with 0 to 3", "the bits of roomShare (as Double.doubleToLongBits)"})
    static void promise28_theValuesInTheirOrder() {
        for (int side = 2; side <= 8; side++) {
            for (int axis = 0; axis < 3; axis++) {
                int s = side;
                int a = axis;
                meetHash("side " + s + ", axis " + a, () -> filled(s, a, s * s, "12"), s * s, "12");
                meetHash("side " + s + ", axis " + a, () -> filled(s, a, 1, ""), 1, "");
            }
        }
    }

    /** One number at 101, so that the slices of the point 0, 1, 0 have other forms than those beside them. */
    @Sentence(of = "Promise 28", says = "ifPut of the point 0, 1, 0 with 7, and with 0, each with 0 and 1")
    static void promise28_ofASparseCube() {
        for (int axis = 0; axis < 3; axis++) {
            for (String points : new String[] {"101=5", "010=5", "101=5 010=-5 111=1"}) {
                int a = axis;
                Maker maker = () -> {
                    CubeSlices c = Cubes.with(4, points);
                    c.keep(a);
                    c.set(1);
                    return c;
                };
                meetHash(points + " by " + a, maker, 1, "");
            }
        }
    }

    @Sentence(of = "Promise 28", says = "in long arithmetic with overflow.")
    static void promise28_emptyAndFullCubes() {
        for (int side = 2; side <= 8; side++) {
            int s = side;
            meetHash("zeros of " + s, () -> Cubes.zeros(s), 4, "");
            for (int number = -999; number <= 999; number += 999 * 2) {
                int n = number;
                Maker full = () -> {
                    CubeSlices c = Cubes.zeros(s);
                    c.add(0, 0, 0, s, n);
                    c.set(64);
                    return c;
                };
                meetHash("full of " + n + ", side " + s, full, 64, "");
            }
        }
    }

    @Sentence(of = "Promise 28", says = "the length of the buffer and each of its character codes.")
    static void promise28_theBuffer() {
        StringBuilder text = new StringBuilder();
        for (int code = 33; code <= 126; code++) {
            text.append((char) code);
        }
        for (String buffer : new String[] {"", "!", "~", text.substring(0, 60), text.substring(34)}) {
            Maker maker = () -> {
                CubeSlices c = new CubeSlices();
                Cubes.tell(c, buffer);
                return c;
            };
            meetHash("buffer " + buffer, maker, 4, buffer);
        }
        CubeSlices c = new CubeSlices();
        Cubes.tell(c, text.substring(0, 60));
        c.clearBuffer();
        c.append('!');
        meetHash("what was there ahead of it", () -> c, 4, "!");
    }

    @Sentence(of = "Promise 28", says = "Returns the hash.")
    static void promise28_changesNothing() {
        CubeSlices c = Cubes.with(4, "000=1");
        Check.same("again the same", c.digest(), c.digest());
        Check.same("saves nothing", c.count(8), 2);
        long before = c.digest();
        c.mark();
        Check.isTrue("a saved state and a mark count", c.digest() != before);
        c.undo();
        Check.same("undone", c.digest(), before);
    }
}
