import java.util.ArrayList;
import java.util.List;

/** Cubes that the tests begin with. */
final class Cubes {
    private Cubes() {
    }

    static CubeSlices zeros(int side) {
        CubeSlices c = new CubeSlices();
        c.begin(side);
        return c;
    }

    /** A cube with the numbers of some points, told as "123=45 000=-1". */
    static CubeSlices with(int side, String points) {
        CubeSlices c = zeros(side);
        putAll(c, points);
        return c;
    }

    static void putAll(CubeSlices c, String points) {
        for (String point : points.split(" ")) {
            c.put(point.charAt(0) - '0', point.charAt(1) - '0', point.charAt(2) - '0',
                    Integer.parseInt(point.substring(4)));
        }
    }

    /** Points of each slice: all of a small cube, but some of a large one, since an object serves 512 calls. */
    static List<int[]> points(int side) {
        List<int[]> points = new ArrayList<>();
        for (int i = 0; i < side * side * side; i++) {
            int[] p = {i % side, i / side % side, i / side / side};
            if (side <= 5 || (p[0] + 2 * p[1] + 3 * p[2]) % 5 == 0) {
                points.add(p);
            }
        }
        return points;
    }

    static List<int[]> corners(int side) {
        List<int[]> corners = new ArrayList<>();
        for (int i = 0; i < 8; i++) {
            corners.add(new int[] {(side - 1) * (i & 1), (side - 1) * (i >> 1 & 1), (side - 1) * (i >> 2)});
        }
        return corners;
    }

    /** A cube with another number at each of those points. */
    static CubeSlices counted(int side) {
        CubeSlices c = zeros(side);
        for (int[] p : points(side)) {
            c.put(p[0], p[1], p[2], numberCounted(p));
        }
        return c;
    }

    static int numberCounted(int... p) {
        return 100 * p[0] + 10 * p[1] + p[2] + 1;
    }

    static int at(CubeSlices c, int[] p) {
        return c.at(p[0], p[1], p[2]);
    }

    /** Makes the buffer this text. */
    static void tell(CubeSlices c, String text) {
        c.clearBuffer();
        for (int i = 0; i < text.length(); i++) {
            c.append(text.charAt(i));
        }
    }

    static int read(CubeSlices c, String text) {
        tell(c, text);
        return c.read();
    }

    static void undoTimes(CubeSlices c, int times) {
        for (int i = 0; i < times; i++) {
            c.undo();
        }
    }
}
