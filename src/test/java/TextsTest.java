/** Promises 12 to 16. */
public final class TextsTest {
    private static final Class<?> ARGUMENT = IllegalArgumentException.class;
    private static final Class<?> STATE = IllegalStateException.class;

    public static void main(String[] args) {
        append();
        clearBuffer();
        firstError();
        read();
        readStops();
        readWrong();
        undo();
        Check.end();
    }

    private static void tell(CubeSlices c, String text) {
        c.clearBuffer();
        for (int i = 0; i < text.length(); i++) {
            c.append(text.charAt(i));
        }
    }

    private static void append() {
        CubeSlices c = new CubeSlices();
        Check.same("12: the first", c.append(33), 1);
        Check.same("12: the last code", c.append(126), 2);
        for (int k : new int[] {32, 127, 0, -1, Integer.MIN_VALUE, Integer.MAX_VALUE}) {
            Check.fails(c, "12: code " + k, ARGUMENT, () -> c.append(k));
        }
        for (int i = 3; i <= 60; i++) {
            Check.same("12: append", c.append('x'), i);
        }
        Check.fails(c, "12: full", STATE, () -> c.append('x'));
        Check.fails(c, "12: full and a wrong code", ARGUMENT, () -> c.append(32));
        Check.same("12: not undoable", c.count(8), 0);
        Check.same("12: length", c.clearBuffer(), 60);
        Check.same("12: begins again", c.append('x'), 1);
    }

    private static void clearBuffer() {
        CubeSlices c = new CubeSlices();
        Check.same("13: empty", c.clearBuffer(), 0);
        tell(c, "0x");
        Check.same("13: clear", c.clearBuffer(), 2);
        Check.same("13: is clear", c.clearBuffer(), 0);
        Check.same("13: not undoable", c.count(8), 0);
    }

    private static void firstError() {
        CubeSlices c = new CubeSlices();
        Check.same("14: empty", c.firstError(), 0);
        String[] right = {
            "0", "07", "077", "777=", "000+", "000=-", "000=0", "000=-0", "000=9", "000=10", "000=999", "000+-999",
            "000=0;", "000=12;", "000=999;7", "000=1;000+2;001=3", "777=-100;765+50;"
        };
        for (String text : right) {
            tell(c, text);
            Check.same("14: " + text, c.firstError(), text.length());
        }
        String[] wrong = {
            "8", "x", "-", ";", "=", "08", "00=", "0000", "00;", "000-", "000;", "000==", "000=+", "000=;", "000=x",
            "000=--", "000=-;", "000=00", "000=-01", "000=1x", "000=1-", "000=1=", "000=1000", "000=-1000",
            "000=999:", "000=1;;", "000=1;8", "000=1;00x", "000=1;000=01", "000=/", "000=:", "000=1/", "000=12:",
            "/", "0/", "00/"
        };
        for (String text : wrong) {
            tell(c, text);
            Check.same("14: " + text, c.firstError(), text.length() - 1);
        }
        tell(c, "00x=1;000=00");
        Check.same("14: the first of several", c.firstError(), 2);
        tell(c, "00x=");
        Check.same("14: all behind it", c.firstError(), 2);
        Check.same("14: nothing changes", c.clearBuffer(), 4);
    }

    private static void read() {
        CubeSlices c = new CubeSlices();
        tell(c, "123=45;123+5;000=-999;301+-7;333+0");
        Check.same("15: read", c.read(), 5);
        Check.same("15: put and added", c.at(1, 2, 3), 50);
        Check.same("15: put", c.at(0, 0, 0), -999);
        Check.same("15: added", c.at(3, 0, 1), -7);
        Check.same("15: clears the buffer", c.clearBuffer(), 0);
        Check.same("15: one call", c.count(8), 1);
        tell(c, "000=1");
        Check.same("15: undo", c.undo(), 0);
        Check.same("15: undone", c.count(2), 0);
        Check.same("15: the buffer stays", c.clearBuffer(), 5);
        tell(c, "000+999;000=-0");
        Check.same("15: minus 0", c.read(), 2);
        Check.same("15: minus 0", c.at(0, 0, 0), 0);
        tell(c, "000=1;111=2;222=3;333=4;000+5;111+6;222+7;333+8;012=123;3=");
        Check.same("15: an error near the end", c.firstError(), 57);
        tell(c, "000=1;111=2;222=3;333=4;000+5;111+6;222+7;333+8;012=-1;321=9");
        Check.same("15: sixty", c.read(), 10);
        Check.same("15: sixty", c.count(3), 1 + 2 + 3 + 4 + 5 + 6 + 7 + 8 - 1 + 9);
    }

    private static void readStops() {
        CubeSlices c = new CubeSlices();
        tell(c, "000=1;400=2;001=3");
        Check.same("15: no such point", c.read(), 1);
        Check.same("15: what follows is not done", c.at(0, 0, 1), 0);
        Check.same("15: clears the buffer", c.clearBuffer(), 0);
        tell(c, "000=999;111=4;000+1;111=5");
        Check.same("15: above 999", c.read(), 2);
        Check.same("15: that stays", c.at(0, 0, 0), 999);
        Check.same("15: and what follows", c.at(1, 1, 1), 4);
        tell(c, "000=-999;000+-1");
        Check.same("15: below -999", c.read(), 1);
        tell(c, "040=1");
        Check.same("15: none is done", c.read(), 0);
        tell(c, "004=1");
        Check.same("15: none is done", c.read(), 0);
        Check.same("15: each saves", c.count(8), 5);
        c.begin(8);
        tell(c, "777=1");
        Check.same("15: the last point", c.read(), 1);
        Check.same("15: the last point", c.at(7, 7, 7), 1);
    }

    private static void readWrong() {
        CubeSlices c = new CubeSlices();
        c.put(0, 0, 0, 1);
        String[] wrong = {
            "", "0", "000", "000=", "000=-", "000=1;", "000=1;0", "000=1;000+", "000=01", "008=1", "000=1;;", "x",
            "000=1x", "000=1000"
        };
        for (String text : wrong) {
            tell(c, text);
            Check.fails(c, "15: " + text, ARGUMENT, () -> c.read());
            Check.same("15: the buffer stays", c.clearBuffer(), text.length());
        }
    }

    private static void undo() {
        CubeSlices c = new CubeSlices();
        Check.fails(c, "16: none", STATE, () -> c.undo());
        for (int i = 1; i <= 9; i++) {
            c.put(0, 0, 0, i);
            Check.same("16: saved", c.count(8), Math.min(i, 6));
        }
        for (int i = 8; i >= 3; i--) {
            Check.same("16: left", c.undo(), i - 3);
            Check.same("16: restored", c.at(0, 0, 0), i);
        }
        Check.fails(c, "16: no more", STATE, () -> c.undo());
        c.put(0, 0, 0, 50);
        c.put(0, 0, 0, 60);
        c.undo();
        c.put(0, 0, 0, 70);
        Check.same("16: put after undo", c.count(8), 2);
        c.undo();
        Check.same("16: restored", c.at(0, 0, 0), 50);
        c.undo();
        Check.same("16: restored", c.at(0, 0, 0), 3);
        undoAll();
    }

    private static void undoAll() {
        CubeSlices c = new CubeSlices();
        c.put(1, 1, 1, 5);
        c.mark();
        c.keep(1);
        c.set(3);
        c.begin(2);
        c.mark();
        Check.same("16: left", c.undo(), 5);
        c.undo();
        Check.same("16: side", c.count(0), 4);
        Check.same("16: numbers", c.at(1, 1, 1), 5);
        Check.same("16: mark", c.difference(0), 0);
        c.undo();
        Check.same("16: axis", c.count(1), 1);
        c.undo();
        Check.same("16: axis", c.count(1), 2);
        c.undo();
        Check.same("16: mark", c.difference(0), 1);
        Check.same("16: setting", c.set(4), 4);
    }
}
