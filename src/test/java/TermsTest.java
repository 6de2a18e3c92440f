import java.util.List;
import java.util.function.Consumer;

/** What holds for all promises: a test for each sentence of "Terms", and for each edge that it names. */
public final class TermsTest {
    private static final int LEAST = Integer.MIN_VALUE;
    private static final int MOST = Integer.MAX_VALUE;

    public static void main(String[] args) {
        Check.sentences(TermsTest.class);
    }

    @Sentence(of = "What it is", says = "An object is used for at most 512 calls after it has been made")
    static void terms_the512thCall() {
        CubeSlices c = new CubeSlices();
        for (int calls = 1; calls <= 508; calls++) {
            c.put(calls % 4, calls / 4 % 4, calls / 16 % 4, calls);
        }
        Check.same("call 509", c.count(8), 6);
        Check.same("call 510", c.at(0, 3, 3), 508);
        Check.same("call 511", c.undo(), 5);
        Check.same("call 512", c.at(0, 3, 3), 444);
    }

    // ---- the cube

    @Sentence(of = "Terms", says = "The cube has a side, 2 to 8, at first 4")
    static void terms_sideAtFirst4() {
        CubeSlices c = new CubeSlices();
        Check.same("at first", c.count(0), 4);
        Check.same("least", c.begin(2), 8);
        Check.same("greatest", c.begin(8), 512);
        Check.wrongArgument(c, "below", () -> c.begin(1));
        Check.wrongArgument(c, "above", () -> c.begin(9));
    }

    @Sentence(of = "Terms", says = "a point is told by x, y, z, each from 0 to the side less 1, and has a number, "
            + "-999 to 999, at first 0.")
    static void terms_pointsAndNumbers() {
        for (int side = 2; side <= 8; side++) {
            CubeSlices c = Cubes.zeros(side);
            int last = side - 1;
            int beyond = side;
            Check.same("at first", c.put(last, last, last, -999), 0);
            Check.same("least", c.put(last, last, last, 999), -999);
            Check.same("greatest", c.at(last, last, last), 999);
            Check.noSuchIndex(c, "x " + beyond, () -> c.at(beyond, 0, 0));
            Check.noSuchIndex(c, "y " + beyond, () -> c.at(0, beyond, 0));
            Check.noSuchIndex(c, "z " + beyond, () -> c.at(0, 0, beyond));
            Check.noSuchIndex(c, "x -1", () -> c.at(-1, 1, 1));
        }
    }

    @Sentence(of = "Terms", says = "There are three axes, 0, 1 and 2, for x, y and z.")
    static void terms_threeAxes() {
        CubeSlices c = Cubes.with(4, "123=5");
        Check.same("x", c.slice(0, 1, 1), 1);
        Check.same("y", c.slice(1, 2, 1), 1);
        Check.same("z", c.slice(2, 3, 1), 1);
        Check.wrongArgument(c, "axis 3", () -> c.slice(3, 0, 1));
        Check.wrongArgument(c, "axis -1", () -> c.slice(-1, 0, 1));
    }

    @Sentence(of = "Terms", says = "A line along an axis is told by its other two coordinates, in their order")
    static void terms_linesByTheOtherTwo() {
        CubeSlices c = Cubes.with(4, "123=5");
        Check.same("y, z", c.line(0, 2, 3), 5);
        Check.same("x, z", c.line(1, 1, 3), 5);
        Check.same("x, y", c.line(2, 1, 2), 5);
        Check.same("z, y", c.line(0, 3, 2), 0);
        Check.same("z, x", c.line(1, 3, 1), 0);
        Check.same("y, x", c.line(2, 2, 1), 0);
    }

    @Sentence(of = "Terms", says = "a slice of an axis is told by its coordinate on it.")
    static void terms_slicesByTheirCoordinate() {
        CubeSlices c = Cubes.with(4, "123=5");
        for (int axis = 0; axis < 3; axis++) {
            for (int at = 0; at < 4; at++) {
                Check.same("axis " + axis + ", at " + at, c.slice(axis, at, 0), at == axis + 1 ? 5 : 0);
            }
        }
    }

    @Sentence(of = "Terms", says = "The cube is kept by the slices of one axis, at first 2.")
    static void terms_keptAtFirstBy2() {
        CubeSlices c = new CubeSlices();
        Check.same("axis", c.count(1), 2);
        Cubes.putAll(c, "000=1 010=1 020=1 030=1");
        Check.same("room as by 2", c.count(4), c.ifKept(2));
        Check.same("four in a slice", c.count(4), 1 + 2 * 4 + 1);
    }

    @Sentence(of = "Terms", says = "In a slice, points are told by offsets: the former one of the other two "
            + "coordinates plus the side times the latter one.")
    static void terms_offsets() {
        String[] formerFirst = {"010=1 001=2", "100=1 001=2", "100=1 010=2"};
        String[] neighbours = {"020=1 030=1 001=1", "200=1 300=1 001=1", "200=1 300=1 010=1"};
        for (int axis = 0; axis < 3; axis++) {
            CubeSlices c = Cubes.with(4, formerFirst[axis]);
            c.keep(axis);
            Check.same("offset 1 is ahead of 4, by " + axis, c.ordered(0, 3), 1001);
            Check.same("then 4, by " + axis, c.ordered(1, 3), 1002);
            CubeSlices d = Cubes.with(4, neighbours[axis]);
            Check.same("offsets 2, 3, 4, by " + axis, d.slice(axis, 0, 4), 1 + 2 + 1 + 1);
        }
    }

    // ---- the forms

    @Sentence(of = "Terms", says = "A slice is in one of three forms:")
    static void terms_oneOfThreeForms() {
        for (int side = 2; side <= 8; side++) {
            CubeSlices c = Cubes.zeros(side);
            c.set(1);
            c.put(0, 0, 0, 1);
            c.put(0, 0, 1, 1);
            c.put(0, 1, 1, 1);
            Check.same("listed", c.slice(2, 0, 3), 1);
            Check.same("full", c.slice(2, 1, 3), 2);
            Check.same("empty ones", c.count(5), side - 2);
            Check.same("listed ones", c.count(6), 1);
            Check.same("full ones", c.count(7), 1);
        }
    }

    @Sentence(of = "Terms", says = "- empty, if all its numbers are 0;")
    static void terms_empty() {
        CubeSlices c = Cubes.with(4, "000=5 110=-5");
        Check.same("a sum of 0 is not enough", c.slice(2, 0, 3), 1);
        Check.same("empty", c.slice(2, 1, 3), 0);
        c.put(0, 0, 0, 0);
        Check.same("one is left", c.slice(2, 0, 3), 1);
        c.put(1, 1, 0, 0);
        Check.same("none is left", c.slice(2, 0, 3), 0);
    }

    @Sentence(of = "Terms", says = "- listed, if at most setting 0 of its numbers are not 0 (but some are): each of "
            + "these by its offset and its number;")
    static void terms_listed() {
        for (int setting = 1; setting <= 64; setting++) {
            CubeSlices c = Cubes.zeros(8);
            c.set(setting);
            for (int i = 0; i < setting; i++) {
                Check.same("none yet, or some", c.slice(2, 5, 3), i == 0 ? 0 : 1);
                c.put(i % 8, i / 8, 5, i % 2 == 0 ? 999 : -1);
            }
            Check.same("just so many as the setting", c.slice(2, 5, 3), 1);
        }
    }

    @Sentence(of = "Terms", says = "- full, otherwise: all its numbers.")
    static void terms_full() {
        for (int setting = 1; setting <= 63; setting++) {
            CubeSlices c = Cubes.zeros(8);
            c.set(setting);
            for (int i = 0; i <= setting; i++) {
                c.put(5, i % 8, i / 8, -1);
            }
            Check.same("one more than the setting", c.slice(0, 5, 3), 2);
            c.put(5, 0, 0, 0);
            Check.same("one less", c.slice(0, 5, 3), 1);
        }
    }

    // ---- the room

    @Sentence(of = "Terms", says = "The room that a slice takes: empty slices that follow one another take 1 together")
    static void terms_roomOfEmptyOnes() {
        for (int side = 2; side <= 8; side++) {
            CubeSlices c = Cubes.zeros(side);
            Check.same("all are empty", c.count(4), 1);
            c.put(0, 0, side - 1, 1);
            Check.same("empty ones ahead", c.count(4), 1 + 3);
            c.put(0, 0, side - 1, 0);
            c.put(0, 0, 0, 1);
            Check.same("empty ones behind", c.count(4), 3 + 1);
        }
        CubeSlices c = Cubes.with(8, "002=1 005=1");
        Check.same("two, two, two", c.count(4), 1 + 3 + 1 + 3 + 1);
        Cubes.putAll(c, "000=1 007=1");
        Check.same("one, two, one", c.count(4), 3 + 1 + 3 + 1 + 3 + 1 + 3);
        Cubes.putAll(c, "001=1 003=1 004=1 006=1");
        Check.same("none", c.count(4), 8 * 3);
        c.keep(0);
        Check.same("by the axis 0, a full one, and seven", c.count(4), 65 + 1);
    }

    @Sentence(of = "Terms", says = "a listed one takes 1, and 2 for each number that is not 0")
    static void terms_roomOfAListedOne() {
        CubeSlices c = Cubes.with(5, "000=1");
        Check.same("one", c.slice(2, 0, 4), 3);
        c.put(2, 0, 0, -999);
        Check.same("two apart", c.slice(2, 0, 4), 5);
        c.put(4, 0, 0, 999);
        Check.same("three apart", c.slice(2, 0, 4), 7);
        c.put(1, 1, 0, 1);
        Check.same("four apart", c.slice(2, 0, 4), 9);
        Check.same("and four empty ones", c.count(4), 9 + 1);
    }

    @Sentence(of = "Terms", says = "but 1 for one whose offset is that of the one ahead of it and 1 more")
    static void terms_roomOfNeighbours() {
        CubeSlices c = Cubes.with(4, "100=1 200=1");
        Check.same("1, 2", c.slice(2, 0, 4), 1 + 2 + 1);
        c.put(3, 0, 0, 1);
        Check.same("1, 2, 3", c.slice(2, 0, 4), 1 + 2 + 1 + 1);
        c.put(0, 1, 0, 1);
        Check.same("1, 2, 3, 4: on in the next row", c.slice(2, 0, 4), 1 + 2 + 1 + 1 + 1);
        c.put(2, 0, 0, 0);
        Check.same("1, 3, 4", c.slice(2, 0, 4), 1 + 2 + 2 + 1);
        c.put(1, 1, 0, 1);
        Check.same("1, 3, 4, 5", c.slice(2, 0, 4), 1 + 2 + 2 + 1 + 1);
        c.begin(4);
        Cubes.putAll(c, "330=1 001=1");
        Check.same("the last, and the first of the next slice", c.count(4), 3 + 3 + 1);
        c.begin(4);
        Cubes.putAll(c, "000=1 010=1 020=1");
        Check.same("0, 4, 8: a side apart", c.slice(2, 0, 4), 1 + 2 + 2 + 2);
    }

    @Sentence(of = "Terms", says = "a full one takes 1 and the square of the side.")
    static void terms_roomOfAFullOne() {
        for (int side = 2; side <= 8; side++) {
            CubeSlices c = Cubes.zeros(side);
            c.set(1);
            c.put(0, 0, 0, 1);
            c.put(1, 1, 0, 1);
            Check.same("two", c.slice(2, 0, 4), 1 + side * side);
            c.add(0, 0, 0, side, 1);
            Check.same("all", c.slice(2, 0, 4), 1 + side * side);
            Check.same("all slices, none together", c.count(4), side * (1 + side * side));
        }
    }

    // ---- the order

    @Sentence(of = "Terms", says = "The points with numbers other than 0 are in an order: by slices of the axis by "
            + "which the cube is kept, then by offsets.")
    static void terms_order() {
        // In the slice 0 the offsets are 1 and 4 by the axis 0, 3 and 4 by the others.
        int[][] due = {{1, 2, 3}, {3, 2, 1}, {3, 1, 2}};
        for (int axis = 0; axis < 3; axis++) {
            CubeSlices c = Cubes.with(4, "010=1 001=2 300=3 222=4 222=0");
            c.keep(axis);
            for (int rank = 0; rank < 3; rank++) {
                Check.same("by " + axis + ", rank " + rank, c.ordered(rank, 3), 1000 + due[axis][rank]);
            }
            Check.same("no more", c.ordered(3, 3), CubeSlices.NONE);
        }
    }

    // ---- the mark

    @Sentence(of = "Terms", says = "There is a mark: a copy of the cube as it was when it was set (at first a cube of "
            + "zeros")
    static void terms_markOfZerosAtFirst() {
        CubeSlices c = new CubeSlices();
        Check.same("no difference", c.difference(0), 0);
        c.add(0, 0, 0, 4, 3);
        Check.same("of zeros", c.difference(1), 64 * 3);
        c.mark();
        c.put(0, 0, 0, 9);
        Check.same("as the cube was, not as it is", c.difference(1), 6);
        c.goBack();
        Check.same("as the cube was", c.count(3), 64 * 3);
    }

    @Sentence(of = "Terms", says = "it is one with the side 4).")
    static void terms_markOfTheSide4AtFirst() {
        CubeSlices c = new CubeSlices();
        c.put(3, 3, 3, 1);
        Check.same("the last point", c.difference(3), 63);
        c.add(0, 0, 0, 4, 3);
        Check.same("differences", c.difference(0), 64);
        Check.same("back", c.goBack(), 64);
        Check.same("side", c.count(0), 4);
        Check.same("zeros", c.count(2), 0);
    }

    @Sentence(of = "Terms", says = "The difference of a point is its number less that of the mark there.")
    static void terms_difference() {
        CubeSlices c = Cubes.with(4, "000=10");
        c.mark();
        c.put(0, 0, 0, 13);
        Check.same("more", c.difference(1), 3);
        c.put(0, 0, 0, 4);
        Check.same("less", c.difference(1), -6);
        c.put(0, 0, 0, 10);
        Check.same("the same", c.difference(0), 0);
        c.put(1, 0, 0, 10);
        Check.same("at another point", c.difference(0), 1);
    }

    // ---- the setting and the texts

    @Sentence(of = "Terms", says = "0: the numbers that a slice lists at most, 1 to 64, at first 4.")
    static void terms_settingAtFirst4() {
        CubeSlices c = Cubes.with(4, "000=1 100=1 200=1 300=1");
        Check.same("four are listed", c.slice(2, 0, 3), 1);
        c.put(0, 1, 0, 1);
        Check.same("five are not", c.slice(2, 0, 3), 2);
        Check.same("at first", c.set(1), 4);
        Check.same("least", c.set(64), 1);
        Check.same("greatest", c.set(4), 64);
        Check.wrongArgument(c, "below", () -> c.set(0));
        Check.wrongArgument(c, "above", () -> c.set(65));
    }

    @Sentence(of = "Terms", says = "The buffer has at most 60 characters.")
    static void terms_bufferOf60() {
        CubeSlices c = new CubeSlices();
        for (int length = 1; length <= 60; length++) {
            Check.same("append", c.append('~'), length);
        }
        Check.wrongState(c, "one more", () -> c.append('~'));
        Check.same("all are there", c.clearBuffer(), 60);
    }

    @Sentence(of = "Terms", says = "Points as a text are one or more points with \";\" between them:")
    static void terms_oneOrMorePoints() {
        CubeSlices c = new CubeSlices();
        Check.wrongArgument(c, "none", () -> c.read());
        Check.same("one", Cubes.read(c, "000=1"), 1);
        Check.same("two", Cubes.read(c, "000=1;001=1"), 2);
        for (String text : new String[] {"000=1;", ";000=1", "000=1;;001=1", "000=1,001=1", "000=1001=1"}) {
            Cubes.tell(c, text);
            Check.wrongArgument(c, text, () -> c.read());
        }
    }

    @Sentence(of = "Terms", says = "x, y and z, each a digit, 0 to 7, then \"=\" (the number is put) or \"+\" (it is "
            + "added), perhaps \"-\", and a number, 0 to 999, without leading zeros.")
    static void terms_aPointAsAText() {
        CubeSlices c = Cubes.zeros(8);
        Cubes.read(c, "123=7;765=-7");
        Check.same("x, y and z in this order", c.at(1, 2, 3), 7);
        Check.same("below 0", c.at(7, 6, 5), -7);
        Cubes.read(c, "123=7;765+-7");
        Check.same("put, not added", c.at(1, 2, 3), 7);
        Check.same("added", c.at(7, 6, 5), -14);
        Check.same("0, -0 and 999", Cubes.read(c, "123=0;765=-0;000=999;001=-999"), 4);
        Check.same("numbers", c.count(2), 2);
        for (String text : new String[] {"008=1", "800=1", "080=1", "00=1", "0000=1", "000-1", "000=+1", "000=01",
            "000=00", "000=-01", "000=-00", "000=1000", "000=-1000", "000=--1", "000= 1", "000="}) {
            c.clearBuffer();
            for (char sign : text.toCharArray()) {
                c.append(sign == ' ' ? '_' : sign);
            }
            Check.wrongArgument(c, text, () -> c.read());
        }
    }

    @Sentence(of = "Terms", says = "The buffer is read from left to right")
    static void terms_fromLeftToRight() {
        CubeSlices c = new CubeSlices();
        Cubes.read(c, "000=1;000+1;000=5;000+1");
        Check.same("the last ones hold", c.at(0, 0, 0), 6);
        Cubes.tell(c, "x00=1;000=y");
        Check.same("the leftmost error", c.firstError(), 0);
    }

    @Sentence(of = "Terms", says = "a character is a syntax error if no points as a text, of any length, begin with "
            + "the characters before it and this character.")
    static void terms_ofAnyLength() {
        CubeSlices c = new CubeSlices();
        Cubes.tell(c, "000=1;000=1;000=1;000=1;000=1;000=1;000=1;000=1;000=1;000=1;");
        Check.same("a text of more than 60 begins so", c.firstError(), 60);
        Check.wrongArgument(c, "but is none yet", () -> c.read());
        Cubes.tell(c, "000=");
        Check.same("a text that goes on begins so", c.firstError(), 4);
        Cubes.tell(c, "0=0");
        Check.same("what comes behind an error", c.firstError(), 1);
    }

    @Sentence(of = "Terms", says = "(Whether there are such points is no matter of syntax.)")
    static void terms_noMatterOfSyntax() {
        for (int side = 2; side <= 8; side++) {
            CubeSlices c = Cubes.zeros(side);
            Cubes.tell(c, "777=999;777+999");
            Check.same("no error", c.firstError(), 15);
            Check.same("read", c.read(), side == 8 ? 1 : 0);
        }
    }

    // ---- what is saved

    /** Each method that is marked "undoable", on a new object, where it changes nothing. */
    private static final List<Consumer<CubeSlices>> THAT_CHANGE_NOTHING = List.of(c -> c.begin(4),
            c -> c.put(0, 0, 0, 0), c -> c.add(0, 0, 0, 4, 0), c -> c.wipe(0, 0), c -> c.shift(1), c -> c.turn(),
            c -> c.keep(2), c -> c.mark(), c -> c.goBack(), c -> c.set(4), c -> Cubes.read(c, "400=1"));

    /** The same methods where they change something, if 123 is 5 there and no difference from the mark is. */
    private static final List<Consumer<CubeSlices>> THAT_CHANGE = List.of(c -> c.begin(3), c -> c.put(1, 2, 3, 6),
            c -> c.add(0, 1, 2, 2, -5), c -> c.wipe(1, 2), c -> c.shift(0), c -> c.turn(), c -> c.keep(0),
            c -> c.set(1), c -> Cubes.read(c, "123+1;000=2"));

    @Sentence(of = "Terms", says = "Each method that is marked \"undoable\" and does not throw an exception saves the "
            + "state from before it (also if it changes nothing):")
    static void terms_savesAlsoIfNothingChanges() {
        for (int i = 0; i < THAT_CHANGE_NOTHING.size(); i++) {
            CubeSlices c = new CubeSlices();
            THAT_CHANGE_NOTHING.get(i).accept(c);
            Check.same("method " + i + " saves one", c.count(8), 1);
            Check.same("method " + i + ", undo", c.undo(), 0);
            Check.same("method " + i + ", undone", c.digest(), new CubeSlices().digest());
        }
    }

    @Sentence(of = "Terms", says = "Each method that is marked \"undoable\" and does not throw an exception saves the "
            + "state from before it")
    static void terms_savesTheStateFromBefore() {
        for (int i = 0; i < THAT_CHANGE.size(); i++) {
            CubeSlices c = new CubeSlices();
            c.put(1, 2, 3, 5);
            c.mark();
            long before = c.digest();
            THAT_CHANGE.get(i).accept(c);
            Check.isTrue("method " + i + " changes something", c.digest() != before);
            Check.same("method " + i + " saves one", c.count(8), 3);
            c.undo();
            Check.same("method " + i + ", undone", c.digest(), before);
        }
    }

    @Sentence(of = "Terms", says = "Each method that is marked \"undoable\"")
    static void terms_theOthersSaveNothing() {
        CubeSlices c = new CubeSlices();
        c.append('0');
        c.firstError();
        c.clearBuffer();
        c.digest();
        Check.same("saved", c.count(8), 0);
        c.put(0, 0, 0, 1);
        c.put(0, 0, 0, 2);
        c.undo();
        Check.same("undo saves nothing", c.count(8), 1);
    }

    @Sentence(of = "Terms", says = "all but the buffer and the saved states.")
    static void terms_bufferAndSavedStatesAreNotRestored() {
        CubeSlices c = new CubeSlices();
        Cubes.tell(c, "000=1");
        c.read();
        Cubes.tell(c, "11");
        c.put(3, 3, 3, 3);
        c.append('1');
        c.undo();
        Check.same("the buffer", c.clearBuffer(), 3);
        Check.same("one saved state less", c.count(8), 1);
        c.undo();
        Check.same("what read took does not come back", c.clearBuffer(), 0);
        Check.same("none is left", c.count(8), 0);
    }

    @Sentence(of = "Terms", says = "At most 6 states are saved")
    static void terms_sixSavedStates() {
        for (int i = 0; i < THAT_CHANGE_NOTHING.size(); i++) {
            CubeSlices c = new CubeSlices();
            for (int calls = 1; calls <= 9; calls++) {
                THAT_CHANGE_NOTHING.get(i).accept(c);
                Check.same("method " + i + ", saved", c.count(8), Math.min(calls, 6));
            }
            Cubes.undoTimes(c, 6);
            Check.wrongState(c, "method " + i + ", no more", () -> c.undo());
        }
    }

    @Sentence(of = "Terms", says = "the oldest one is dropped first.")
    static void terms_theOldestIsDroppedFirst() {
        for (int calls = 1; calls <= 20; calls++) {
            CubeSlices c = new CubeSlices();
            for (int number = 1; number <= calls; number++) {
                c.put(3, 0, 3, number);
            }
            int saved = Math.min(calls, 6);
            Check.same("saved", c.count(8), saved);
            for (int back = 1; back <= saved; back++) {
                Check.same("undo", c.undo(), saved - back);
                Check.same("restored", c.at(3, 0, 3), calls - back);
            }
            Check.wrongState(c, "no more", () -> c.undo());
        }
    }

    // ---- exceptions

    /** Refused calls on a cube of the side 4 whose number at 333 is 999 and whose buffer is "000=1;". */
    private static final List<Consumer<CubeSlices>> REFUSED = List.of(c -> c.begin(1), c -> c.begin(9),
            c -> c.put(4, 0, 0, 1), c -> c.put(0, 0, 0, 1000), c -> c.add(4, 0, 0, 1, 1), c -> c.add(3, 3, 3, 2, 1),
            c -> c.add(0, 0, 0, 9, 1), c -> c.add(0, 0, 0, 4, 1000), c -> c.add(0, 0, 0, 4, 1), c -> c.wipe(0, 4),
            c -> c.wipe(3, 0), c -> c.shift(3), c -> c.keep(-1), c -> c.set(0), c -> c.set(65), c -> c.append(32),
            c -> c.append(127), c -> c.read(), c -> c.at(0, 0, -1), c -> c.line(0, 0, 4), c -> c.line(3, 0, 0),
            c -> c.slice(0, 4, 0), c -> c.slice(3, 0, 0), c -> c.slice(0, 0, 5), c -> c.ordered(-1, 0),
            c -> c.ordered(0, 4), c -> c.difference(4), c -> c.count(9), c -> c.ifKept(3),
            c -> c.ifPut(0, 4, 0, 1, 0), c -> c.ifPut(0, 0, 0, -1000, 0), c -> c.ifPut(0, 0, 0, 1, 2),
            c -> c.best(3), c -> c.heaviest(4));

    private static CubeSlices withSixSaved() {
        CubeSlices c = new CubeSlices();
        c.begin(2);
        c.begin(4);
        c.put(3, 3, 3, 999);
        c.mark();
        c.keep(1);
        c.set(2);
        c.put(0, 1, 2, -4);
        Cubes.tell(c, "000=1;");
        return c;
    }

    /** The digests of a state and of all that undo brings back. */
    private static long[] digests(CubeSlices c) {
        long[] digests = new long[8];
        for (int i = 0; i < 7; i++) {
            digests[i] = c.digest();
            if (i < 6) {
                c.undo();
            }
        }
        digests[7] = c.count(8);
        return digests;
    }

    private static void meetDigests(String run, CubeSlices c) {
        long[] due = digests(withSixSaved());
        long[] got = digests(c);
        for (int i = 0; i < due.length; i++) {
            Check.same(run + ", behind " + i + " undos", got[i], due[i]);
        }
    }

    @Sentence(of = "Terms", says = "A call that throws an exception changes nothing.")
    static void terms_refusedCallsChangeNothing() {
        for (int i = 0; i < REFUSED.size(); i++) {
            CubeSlices c = withSixSaved();
            boolean isRefused = false;
            try {
                REFUSED.get(i).accept(c);
            } catch (IndexOutOfBoundsException | IllegalArgumentException | IllegalStateException e) {
                isRefused = true;
            }
            Check.isTrue("call " + i + " is refused", isRefused);
            meetDigests("call " + i, c);
        }
    }

    @Sentence(of = "Terms", says = "A call that throws an exception changes nothing.")
    static void terms_refusedAppendAndUndoChangeNothing() {
        CubeSlices c = new CubeSlices();
        for (int i = 0; i < 60; i++) {
            c.append('0' + i % 10);
        }
        Check.wrongState(c, "append to a full buffer", () -> c.append('x'));
        Check.wrongState(c, "undo without a saved state", () -> c.undo());
        Check.same("the buffer", c.clearBuffer(), 60);
        c.turn();
        Check.same("the saved states", c.count(8), 1);
    }

    @Sentence(of = "Terms", says = "If several exceptions apply, the one that is named first in the throws clause is "
            + "thrown.")
    static void terms_theFirstNamedIsThrown() {
        CubeSlices c = Cubes.with(4, "333=999");
        for (int k : new int[] {4, -1, LEAST, MOST}) {
            Check.noSuchIndex(c, "put", () -> c.put(k, 0, 0, 1000));
            Check.noSuchIndex(c, "add, no point, size", () -> c.add(0, k, 0, 9, 1));
            Check.noSuchIndex(c, "add, no point, number", () -> c.add(0, k, 0, 1, -1000));
            Check.noSuchIndex(c, "add, no point, all", () -> c.add(k, k, k, 0, 1000));
            Check.noSuchIndex(c, "wipe", () -> c.wipe(3, k));
            Check.noSuchIndex(c, "line", () -> c.line(3, k, 0));
            Check.noSuchIndex(c, "line", () -> c.line(-1, 0, k));
            Check.noSuchIndex(c, "slice", () -> c.slice(3, k, 5));
            Check.noSuchIndex(c, "ifPut, number", () -> c.ifPut(0, 0, k, 1000, 0));
            Check.noSuchIndex(c, "ifPut, what", () -> c.ifPut(0, 0, k, 1, 2));
        }
        Check.noSuchIndex(c, "add, box, number", () -> c.add(3, 3, 3, 2, 1000));
        Check.noSuchIndex(c, "add, box, a number beyond", () -> c.add(3, 3, 3, 2, 1));
        Check.wrongArgument(c, "add, number, a number beyond", () -> c.add(3, 3, 3, 1, 1000));
        Check.wrongArgument(c, "add, size, a number beyond", () -> c.add(3, 3, 3, 9, 1));
        for (int i = 0; i < 60; i++) {
            c.append('0');
        }
        Check.wrongArgument(c, "append", () -> c.append(32));
    }

    @Sentence(of = "Terms", says = "The constants: `NONE = -1`: There is nothing to return.")
    static void terms_none() {
        CubeSlices c = new CubeSlices();
        Check.same("NONE", CubeSlices.NONE, -1);
        Check.same("no point", c.ordered(0, 0), -1);
        Check.same("no difference", c.difference(3), -1);
    }

    // ---- what changes nothing

    @Sentence(of = "Terms", says = "nothing is changed.")
    static void terms_looksChangeNothing() {
        CubeSlices c = withSixSaved();
        for (int axis = 0; axis < 3; axis++) {
            for (int at = 0; at < 4; at++) {
                c.line(axis, at, 3 - at);
                c.slice(axis, at, at + 1);
                c.slice(axis, at, 0);
            }
        }
        c.at(3, 3, 3);
        for (int what = 0; what <= 8; what++) {
            c.count(what);
            c.difference(what % 4);
            c.ordered(what, what % 4);
        }
        c.firstError();
        meetDigests("looks", c);
    }

    @Sentence(of = "Terms", says = "nothing is changed.")
    static void terms_whatWouldBeChangesNothing() {
        CubeSlices c = withSixSaved();
        for (int what = 0; what < 3; what++) {
            c.ifKept(what);
            c.ifPut(what, 1, 2, 7, 0);
            c.ifPut(3, 3, 3, 0, 1);
            c.best(what);
            c.heaviest(what + 1);
        }
        c.roomShare();
        c.digest();
        meetDigests("what would be", c);
    }
}
