/** Promises 12 to 16: a test for each sentence, and for each edge that it names. */
public final class TextsTest {
    private static final String DIGITS = "0123456789";
    private static final String COORDINATES = "01234567";
    /** Ten points in 60 characters, if the last ";" counts. */
    private static final String TEN_POINTS = "000=1;100=1;010+1;110=1;001=1;101=1;011=1;111=1;222=1;333=1;";

    public static void main(String[] args) {
        Check.sentences(TextsTest.class);
    }

    private static void append(CubeSlices c, int times) {
        for (int i = 0; i < times; i++) {
            c.append('0');
        }
    }

    // ---- promise 12: append

    @Sentence(of = "Promise 12", says = "Appends a character to the buffer.")
    static void promise12_appendsAtTheEnd() {
        CubeSlices c = new CubeSlices();
        c.append('1');
        c.append('2');
        c.append('3');
        c.append('=');
        c.append('4');
        Check.same("read", c.read(), 1);
        Check.same("in that order", c.at(1, 2, 3), 4);
        Check.same("saved by read alone", c.count(8), 1);
    }

    @Sentence(of = "Promise 12", says = "- `code`: the character code, 33 to 126")
    static void promise12_eachCode() {
        for (int code = 33; code <= 126; code++) {
            CubeSlices c = new CubeSlices();
            Check.same("code " + code, c.append(code), 1);
        }
    }

    @Sentence(of = "Promise 12", says = "Returns the new length of the buffer.")
    static void promise12_returnsTheNewLength() {
        CubeSlices c = new CubeSlices();
        for (int i = 1; i <= 60; i++) {
            Check.same("append", c.append('x'), i);
        }
        c.clearBuffer();
        Check.same("from the start again", c.append('x'), 1);
    }

    @Sentence(of = "Promise 12", says = "Throws `IllegalArgumentException` if code is not 33 to 126")
    static void promise12_codeOutOfRange() {
        CubeSlices c = new CubeSlices();
        for (int length = 0; length < 60; length += 59) {
            append(c, length);
            for (int k : Check.outside(33, 126)) {
                Check.wrongArgument(c, "code " + k, () -> c.append(k));
            }
            Check.wrongArgument(c, "code 0", () -> c.append(0));
            Check.wrongArgument(c, "code 256 + 48", () -> c.append(256 + 48));
        }
        Check.same("length", c.clearBuffer(), 59);
    }

    @Sentence(of = "Promise 12", says = "Throws `IllegalStateException` if the buffer has 60 characters")
    static void promise12_bufferIsFull() {
        CubeSlices c = new CubeSlices();
        append(c, 59);
        Check.same("the last one", c.append('0'), 60);
        Check.wrongState(c, "one more", () -> c.append('0'));
        for (int k : Check.outside(33, 126)) {
            Check.wrongArgument(c, "one more with the code " + k, () -> c.append(k));
        }
        Check.same("length", c.clearBuffer(), 60);
        Check.same("there is room again", c.append('0'), 1);
    }

    // ---- promise 13: clearBuffer

    @Sentence(of = "Promise 13", says = "Clears the buffer.")
    static void promise13_clears() {
        CubeSlices c = new CubeSlices();
        long before = c.digest();
        Cubes.tell(c, "x00=1");
        c.clearBuffer();
        Check.same("nothing else changes", c.digest(), before);
        Check.same("no error is left", c.firstError(), 0);
        Check.same("is not undoable", c.count(8), 0);
        Cubes.tell(c, "000=1");
        Check.same("what comes then", c.read(), 1);
    }

    @Sentence(of = "Promise 13", says = "Returns the length that it had.")
    static void promise13_returnsTheLength() {
        CubeSlices c = new CubeSlices();
        Check.same("empty", c.clearBuffer(), 0);
        for (int length = 1; length <= 60; length++) {
            c.clearBuffer();
            append(c, length);
            Check.same("length", c.clearBuffer(), length);
            Check.same("empty again", c.clearBuffer(), 0);
            if (length % 6 == 0) {
                c = new CubeSlices();
            }
        }
    }

    // ---- promise 14: firstError

    /** Meets each character behind a text without errors: it is an error if it is none of these. */
    private static void meetFollowing(String text, String mayFollow) {
        CubeSlices c = new CubeSlices();
        Cubes.tell(c, text);
        Check.same(text, c.firstError(), text.length());
        for (char sign = 33; sign <= 126; sign++) {
            if (sign % 16 == 0) {
                c = new CubeSlices();
            }
            Cubes.tell(c, text + sign);
            boolean isError = mayFollow.indexOf(sign) < 0;
            Check.same(text + sign, c.firstError(), text.length() + (isError ? 0 : 1));
        }
    }

    @Sentence(of = "Promise 14", says = "Finds the first syntax error of the buffer.")
    static void promise14_eachCharacterOfAPoint() {
        for (String before : new String[] {"", "000=0;", "777+-999;", "123=45;670+8;"}) {
            meetFollowing(before, COORDINATES);
            meetFollowing(before + "0", COORDINATES);
            meetFollowing(before + "07", COORDINATES);
            meetFollowing(before + "070", "=+");
            for (String sign : new String[] {"=", "+"}) {
                meetFollowing(before + "777" + sign, "-" + DIGITS);
                meetFollowing(before + "777" + sign + "-", DIGITS);
                for (String minus : new String[] {"", "-"}) {
                    String text = before + "777" + sign + minus;
                    meetFollowing(text + "0", ";");
                    meetFollowing(text + "1", DIGITS + ";");
                    meetFollowing(text + "9", DIGITS + ";");
                    meetFollowing(text + "10", DIGITS + ";");
                    meetFollowing(text + "99", DIGITS + ";");
                    meetFollowing(text + "100", ";");
                    meetFollowing(text + "999", ";");
                }
            }
        }
    }

    @Sentence(of = "Promise 14", says = "Returns the index of the first character that is a syntax error")
    static void promise14_theFirstOfSeveral() {
        CubeSlices c = new CubeSlices();
        Cubes.tell(c, "8");
        Check.same("at the index 0", c.firstError(), 0);
        Cubes.tell(c, "00x=1;000=00");
        Check.same("the first of two", c.firstError(), 2);
        Cubes.tell(c, "00;=1");
        Check.same("what is right behind it", c.firstError(), 2);
        Cubes.tell(c, "000=1;;000=2");
        Check.same("an empty point", c.firstError(), 6);
        Cubes.tell(c, "000=1;000=2;000=1000");
        Check.same("in the third point", c.firstError(), 19);
        Check.same("the buffer stays", c.clearBuffer(), 20);
        Check.same("nothing is saved", c.count(8), 0);
    }

    @Sentence(of = "Promise 14", says = "Returns the index of the first character that is a syntax error")
    static void promise14_theLastOf60() {
        CubeSlices c = new CubeSlices();
        Cubes.tell(c, TEN_POINTS.substring(0, 59) + "x");
        Check.same("at the index 59", c.firstError(), 59);
    }

    @Sentence(of = "Promise 14", says = "the length of the buffer if there is none")
    static void promise14_none() {
        CubeSlices c = new CubeSlices();
        Check.same("empty", c.firstError(), 0);
        for (int length = 1; length <= 60; length++) {
            c.append(TEN_POINTS.charAt(length - 1));
            Check.same("so far", c.firstError(), length);
        }
    }

    // ---- promise 15: read

    @Sentence(of = "Promise 15", says = "Does what the buffer tells, one point after the other")
    static void promise15_putsAndAdds() {
        CubeSlices c = new CubeSlices();
        Check.same("read", Cubes.read(c, "123=45;123+5;000=-999;301+-7;333+0"), 5);
        Check.same("put, then added", c.at(1, 2, 3), 50);
        Check.same("put", c.at(0, 0, 0), -999);
        Check.same("added", c.at(3, 0, 1), -7);
        Check.same("numbers", c.count(2), 3);
        Check.same("added, then put", Cubes.read(c, "123+5;123=1"), 2);
        Check.same("the later one holds", c.at(1, 2, 3), 1);
        Check.same("one more", Cubes.read(c, "123+5"), 1);
        Check.same("to what was there", c.at(1, 2, 3), 6);
    }

    @Sentence(of = "Promise 15", says = "Does what the buffer tells")
    static void promise15_leastAndGreatestNumbers() {
        CubeSlices c = new CubeSlices();
        Check.same("read", Cubes.read(c, "000=999;001=-999;010+999;011+-999;100=-0;101+-0;110=0"), 7);
        Check.same("put", c.at(0, 0, 0), 999);
        Check.same("put", c.at(0, 0, 1), -999);
        Check.same("added", c.at(0, 1, 0), 999);
        Check.same("added", c.at(0, 1, 1), -999);
        Check.same("zeros", c.count(2), 4);
        Check.same("to zero", Cubes.read(c, "000=-0;001+999;010+-999;011=0"), 4);
        Check.same("zeros", c.count(2), 0);
        Cubes.read(c, "000=10;001=100;010=909");
        Check.same("zeros in a number", c.count(3), 10 + 100 + 909);
    }

    @Sentence(of = "Promise 15", says = "Does what the buffer tells")
    static void promise15_sixtyCharacters() {
        CubeSlices c = new CubeSlices();
        Check.same("ten points", Cubes.read(c, TEN_POINTS.substring(0, 59)), 10);
        Check.same("sum", c.count(3), 10);
        Check.same("sixty", Cubes.read(c, TEN_POINTS.substring(0, 59) + "2"), 10);
        Check.same("sum", c.count(3), 10 - 1 + 12 + 1);
    }

    @Sentence(of = "Promise 15", says = "up to the first one that there is not")
    static void promise15_stopsAtAPointThatThereIsNot() {
        for (int side = 2; side <= 7; side++) {
            for (int axis = 0; axis < 3; axis++) {
                CubeSlices c = Cubes.zeros(side);
                StringBuilder last = new StringBuilder("000=1");
                last.setCharAt(axis, (char) ('0' + side - 1));
                StringBuilder beyond = new StringBuilder("000=2");
                beyond.setCharAt(axis, (char) ('0' + side));
                Check.same("side " + side, Cubes.read(c, last + ";" + beyond + ";111=3"), 1);
                Check.same("what follows is not done", c.count(3), 1);
                Check.same("the buffer is clear", c.clearBuffer(), 0);
            }
        }
        CubeSlices c = Cubes.zeros(8);
        Check.same("the side 8 has them all", Cubes.read(c, "777=1;707+2;070=3"), 3);
        Check.same("sum", c.count(3), 6);
    }

    @Sentence(of = "Promise 15", says = "or whose number would be out of range")
    static void promise15_stopsAtANumberOutOfRange() {
        CubeSlices c = new CubeSlices();
        Check.same("above 999", Cubes.read(c, "000=999;111=4;000+1;111=5"), 2);
        Check.same("it stays", c.at(0, 0, 0), 999);
        Check.same("what follows is not done", c.at(1, 1, 1), 4);
        Check.same("below -999", Cubes.read(c, "000=-999;000+-1;111=6"), 1);
        Check.same("it stays", c.at(0, 0, 0), -999);
        Check.same("just up to 999", Cubes.read(c, "000=998;000+1"), 2);
        Check.same("999", c.at(0, 0, 0), 999);
        Check.same("just down to -999", Cubes.read(c, "000=-998;000+-1"), 2);
        Check.same("-999", c.at(0, 0, 0), -999);
        Check.same("999 to 999 on the way", Cubes.read(c, "000=999;000+-999;000+-999;000+999"), 4);
    }

    @Sentence(of = "Promise 15", says = "and clears the buffer.")
    static void promise15_clearsTheBuffer() {
        CubeSlices c = new CubeSlices();
        Cubes.read(c, "000=1;001=2");
        Check.same("all done", c.clearBuffer(), 0);
        Cubes.read(c, "000=1;004=2");
        Check.same("one done", c.clearBuffer(), 0);
        Cubes.read(c, "004=2");
        Check.same("none done", c.clearBuffer(), 0);
        Check.wrongArgument(c, "again", () -> c.read());
    }

    @Sentence(of = "Promise 15", says = "Undoable, as one call")
    static void promise15_undoableAsOneCall() {
        CubeSlices c = new CubeSlices();
        c.put(0, 0, 0, 9);
        Cubes.read(c, "000=1;001=2;000+3;012=4");
        Check.same("saved once", c.count(8), 2);
        Cubes.tell(c, "111=1");
        Check.same("undo", c.undo(), 1);
        Check.same("undone", c.at(0, 0, 0), 9);
        Check.same("undone", c.count(2), 1);
        Check.same("the buffer is not restored", c.clearBuffer(), 5);
    }

    @Sentence(of = "Promise 15", says = "also if none is done.")
    static void promise15_undoableIfNoneIsDone() {
        CubeSlices c = new CubeSlices();
        Check.same("no such point", Cubes.read(c, "400=1"), 0);
        Check.same("saved", c.count(8), 1);
        c.put(0, 0, 0, 999);
        Check.same("out of range", Cubes.read(c, "000+1;000=5"), 0);
        Check.same("saved", c.count(8), 3);
        c.undo();
        Check.same("undone", c.at(0, 0, 0), 999);
    }

    @Sentence(of = "Promise 15", says = "Returns how many are done.")
    static void promise15_returnsHowManyAreDone() {
        CubeSlices c = new CubeSlices();
        Check.same("none", Cubes.read(c, "040=1;000=1"), 0);
        Check.same("one", Cubes.read(c, "000=1"), 1);
        Check.same("that change nothing", Cubes.read(c, "000=1;000+0;000+-0"), 3);
        Check.same("nine", Cubes.read(c, TEN_POINTS.substring(0, 53)), 9);
        Check.same("two of three", Cubes.read(c, "000=1;000=2;004=3"), 2);
    }

    @Sentence(of = "Promise 15",
            says = "Throws `IllegalArgumentException` if the buffer does not tell points as a text")
    static void promise15_noPointsAsAText() {
        CubeSlices c = Cubes.with(4, "000=1");
        String[] texts = {
            "", "0", "00", "000", "000=", "000+", "000=-", "000+-", "000=1;", "000=1;0", "000=1;000+", "000=01", "8",
            "008=1", "000=1;;", ";", ";000=1", "x", "000=1x", "000=1000", "000=-00", "000=1;000", "000==1",
            "000=+1", "000=--1", "000-1", TEN_POINTS, TEN_POINTS.substring(0, 58), "400=1;", "400=1000"
        };
        for (String text : texts) {
            Cubes.tell(c, text);
            Check.wrongArgument(c, "read " + text, () -> c.read());
            Check.same("the buffer stays", c.clearBuffer(), text.length());
        }
        Check.same("nothing is saved", c.count(8), 2);
    }

    // ---- promise 16: undo

    @Sentence(of = "Promise 16", says = "Restores the latest saved state, and drops it.")
    static void promise16_latestFirst() {
        CubeSlices c = new CubeSlices();
        c.put(0, 0, 0, 1);
        c.put(0, 0, 0, 2);
        c.put(0, 0, 0, 3);
        c.undo();
        Check.same("before the third", c.at(0, 0, 0), 2);
        c.put(0, 0, 0, 4);
        c.undo();
        Check.same("before the fourth", c.at(0, 0, 0), 2);
        c.undo();
        Check.same("before the second", c.at(0, 0, 0), 1);
        c.undo();
        Check.same("before the first", c.at(0, 0, 0), 0);
        Check.same("nothing is left", c.count(8), 0);
    }

    @Sentence(of = "Promise 16", says = "Restores the latest saved state")
    static void promise16_theWholeState() {
        CubeSlices c = new CubeSlices();
        c.put(0, 1, 2, 5);
        c.mark();
        c.put(2, 2, 2, 6);
        c.set(1);
        c.keep(0);
        long before = c.digest();
        for (int side = 2; side <= 8; side++) {
            c.begin(side);
            Check.isTrue("begin changes it", c.digest() != before);
            Check.same("left", c.undo(), 5);
            Check.same("as before", c.digest(), before);
        }
        Check.same("side", c.count(0), 4);
        Check.same("axis", c.count(1), 0);
        Check.same("numbers", c.at(2, 2, 2), 6);
        Check.same("mark", c.difference(0), 1);
        Check.same("setting", c.set(2), 1);
    }

    @Sentence(of = "Promise 16", says = "Restores the latest saved state, and drops it.")
    static void promise16_isNotUndoableItself() {
        CubeSlices c = new CubeSlices();
        c.put(0, 0, 0, 1);
        c.put(0, 0, 0, 2);
        c.undo();
        c.undo();
        Check.same("not done again", c.at(0, 0, 0), 0);
        Check.wrongState(c, "undo", () -> c.undo());
    }

    @Sentence(of = "Promise 16", says = "Returns how many saved states are left.")
    static void promise16_returnsWhatIsLeft() {
        CubeSlices c = new CubeSlices();
        for (int calls = 1; calls <= 9; calls++) {
            c.put(0, 0, 0, calls);
        }
        for (int left = 5; left >= 0; left--) {
            Check.same("undo", c.undo(), left);
            Check.same("saved", c.count(8), left);
            Check.same("number", c.at(0, 0, 0), left + 3);
        }
        c.turn();
        Check.same("the only one", c.undo(), 0);
    }

    @Sentence(of = "Promise 16", says = "Throws `IllegalStateException` if there is none")
    static void promise16_none() {
        CubeSlices c = new CubeSlices();
        Check.wrongState(c, "undo of a new object", () -> c.undo());
        c.append('0');
        Check.wrongState(c, "append is not undoable", () -> c.undo());
        c.put(0, 0, 0, 1);
        c.undo();
        Check.wrongState(c, "undo of all", () -> c.undo());
        for (int calls = 1; calls <= 8; calls++) {
            c.put(0, 0, 0, calls);
        }
        Cubes.undoTimes(c, 6);
        Check.wrongState(c, "undo of more than six", () -> c.undo());
        Check.same("the oldest that was kept", c.at(0, 0, 0), 2);
    }
}
