import java.util.ArrayDeque;
import java.util.ArrayList;
import java.util.List;
import java.util.TreeMap;
import java.util.regex.Matcher;
import java.util.regex.Pattern;

/** The document's words again, in another way: points by name in sorted maps, and the syntax as a pattern. */
final class Model {
    private static final Pattern POINTS =
            Pattern.compile("[0-7]{3}[=+]-?(0|[1-9][0-9]{0,2})(;[0-7]{3}[=+]-?(0|[1-9][0-9]{0,2}))*");

    private record Saved(int[][][] numbers, int[][][] marked, int axis, int setting) {
    }

    private int[][][] numbers = new int[4][4][4];
    private int[][][] marked = new int[4][4][4];
    private int axis = 2;
    private int setting = 4;
    private String buffer = "";
    private final ArrayDeque<Saved> saved = new ArrayDeque<>();

    private static int[][][] copy(int[][][] cube) {
        int[][][] other = new int[cube.length][cube.length][];
        for (int x = 0; x < cube.length; x++) {
            for (int y = 0; y < cube.length; y++) {
                other[x][y] = cube[x][y].clone();
            }
        }
        return other;
    }

    private void save() {
        saved.addLast(new Saved(copy(numbers), copy(marked), axis, setting));
        if (saved.size() > 6) {
            saved.removeFirst();
        }
    }

    private static void need(boolean held, RuntimeException otherwise) {
        if (!held) {
            throw otherwise;
        }
    }

    private static void needIndex(boolean held) {
        need(held, new IndexOutOfBoundsException());
    }

    private static void needArgument(boolean held) {
        need(held, new IllegalArgumentException());
    }

    private static void needState(boolean held) {
        need(held, new IllegalStateException());
    }

    private static boolean in(int value, int least, int most) {
        return least <= value && value <= most;
    }

    private int side() {
        return numbers.length;
    }

    private boolean isOn(int... at) {
        for (int k : at) {
            if (!in(k, 0, side() - 1)) {
                return false;
            }
        }
        return true;
    }

    /** All points, by z, then y, then x. */
    private List<int[]> points() {
        List<int[]> points = new ArrayList<>();
        for (int z = 0; z < side(); z++) {
            for (int y = 0; y < side(); y++) {
                for (int x = 0; x < side(); x++) {
                    points.add(new int[] {x, y, z});
                }
            }
        }
        return points;
    }

    private static int get(int[][][] cube, int[] p) {
        return cube[p[0]][p[1]][p[2]];
    }

    private static int[] others(int axis) {
        return axis == 0 ? new int[] {1, 2} : axis == 1 ? new int[] {0, 2} : new int[] {0, 1};
    }

    /** All numbers of a slice by their offsets. */
    private TreeMap<Integer, Integer> sliceMap(int ofAxis, int at) {
        TreeMap<Integer, Integer> map = new TreeMap<>();
        int[] other = others(ofAxis);
        for (int[] p : points()) {
            if (p[ofAxis] == at) {
                map.put(p[other[0]] + side() * p[other[1]], get(numbers, p));
            }
        }
        return map;
    }

    private int form(int ofAxis, int at, int most) {
        long filled = sliceMap(ofAxis, at).values().stream().filter(n -> n != 0).count();
        return filled == 0 ? 0 : filled <= most ? 1 : 2;
    }

    private int roomOfSlice(int ofAxis, int at, int most) {
        int form = form(ofAxis, at, most);
        if (form == 0) {
            return 1;
        }
        if (form == 2) {
            return 1 + side() * side();
        }
        TreeMap<Integer, Integer> map = sliceMap(ofAxis, at);
        int room = 1;
        for (int offset : map.keySet()) {
            if (map.get(offset) != 0) {
                room += map.getOrDefault(offset - 1, 0) != 0 ? 1 : 2;
            }
        }
        return room;
    }

    private int room(int ofAxis, int most) {
        int room = 0;
        for (int at = 0; at < side(); at++) {
            boolean joined = at > 0 && form(ofAxis, at, most) == 0 && form(ofAxis, at - 1, most) == 0;
            room += joined ? 0 : roomOfSlice(ofAxis, at, most);
        }
        return room;
    }

    int begin(int side) {
        needArgument(in(side, 2, 8));
        save();
        numbers = new int[side][side][side];
        marked = new int[side][side][side];
        return points().size();
    }

    int put(int x, int y, int z, int number) {
        needIndex(isOn(x, y, z));
        needArgument(in(number, -999, 999));
        save();
        int previous = numbers[x][y][z];
        numbers[x][y][z] = number;
        return previous;
    }

    int add(int x, int y, int z, int size, int number) {
        needIndex(isOn(x, y, z));
        needIndex(!in(size, 1, 8) || isOn(x + size - 1, y + size - 1, z + size - 1));
        needArgument(in(size, 1, 8) && in(number, -999, 999));
        int[][][] then = copy(numbers);
        int filled = 0;
        for (int[] p : points()) {
            if (in(p[0], x, x + size - 1) && in(p[1], y, y + size - 1) && in(p[2], z, z + size - 1)) {
                int sum = get(numbers, p) + number;
                needState(in(sum, -999, 999));
                then[p[0]][p[1]][p[2]] = sum;
                filled += sum != 0 ? 1 : 0;
            }
        }
        save();
        numbers = then;
        return filled;
    }

    int wipe(int ofAxis, int at) {
        needIndex(isOn(at));
        needArgument(in(ofAxis, 0, 2));
        save();
        int filled = 0;
        for (int[] p : points()) {
            if (p[ofAxis] == at) {
                filled += get(numbers, p) != 0 ? 1 : 0;
                numbers[p[0]][p[1]][p[2]] = 0;
            }
        }
        return filled;
    }

    private int become(int[][][] then) {
        int changed = 0;
        for (int[] p : points()) {
            changed += get(then, p) != get(numbers, p) ? 1 : 0;
        }
        numbers = then;
        return changed;
    }

    int shift(int ofAxis) {
        needArgument(in(ofAxis, 0, 2));
        save();
        int[][][] then = copy(numbers);
        for (int[] p : points()) {
            int[] q = p.clone();
            q[ofAxis] = (p[ofAxis] + 1) % side();
            then[q[0]][q[1]][q[2]] = get(numbers, p);
        }
        return become(then);
    }

    int turn() {
        save();
        int[][][] then = copy(numbers);
        for (int[] p : points()) {
            then[p[2]][p[0]][p[1]] = get(numbers, p);
        }
        become(then);
        return room(axis, setting);
    }

    int keep(int ofAxis) {
        needArgument(in(ofAxis, 0, 2));
        save();
        axis = ofAxis;
        return room(axis, setting);
    }

    int mark() {
        int differences = difference(0);
        save();
        marked = copy(numbers);
        return differences;
    }

    int goBack() {
        save();
        return become(copy(marked));
    }

    int set(int most) {
        needArgument(in(most, 1, 64));
        save();
        int previous = setting;
        setting = most;
        return previous;
    }

    int append(int code) {
        needArgument(in(code, 33, 126));
        needState(buffer.length() < 60);
        buffer += (char) code;
        return buffer.length();
    }

    int clearBuffer() {
        int length = buffer.length();
        buffer = "";
        return length;
    }

    /** Whether points as a text may begin so: the pattern matches, or wants more behind the last character. */
    private static boolean mayBegin(String text) {
        Matcher matcher = POINTS.matcher(text);
        return matcher.matches() || matcher.hitEnd();
    }

    int firstError() {
        for (int i = 0; i < buffer.length(); i++) {
            if (!mayBegin(buffer.substring(0, i + 1))) {
                return i;
            }
        }
        return buffer.length();
    }

    int read() {
        needArgument(POINTS.matcher(buffer).matches());
        save();
        int done = 0;
        for (String point : buffer.split(";")) {
            int x = point.charAt(0) - '0';
            int y = point.charAt(1) - '0';
            int z = point.charAt(2) - '0';
            int number = Integer.parseInt(point.substring(4));
            if (!isOn(x, y, z) || point.charAt(3) == '+' && !in(numbers[x][y][z] + number, -999, 999)) {
                break;
            }
            numbers[x][y][z] = point.charAt(3) == '+' ? numbers[x][y][z] + number : number;
            done++;
        }
        buffer = "";
        return done;
    }

    int undo() {
        needState(!saved.isEmpty());
        Saved last = saved.removeLast();
        numbers = last.numbers();
        marked = last.marked();
        axis = last.axis();
        setting = last.setting();
        return saved.size();
    }

    int at(int x, int y, int z) {
        needIndex(isOn(x, y, z));
        return numbers[x][y][z];
    }

    int line(int ofAxis, int first, int other) {
        needIndex(isOn(first, other));
        needArgument(in(ofAxis, 0, 2));
        int[] others = others(ofAxis);
        int sum = 0;
        for (int[] p : points()) {
            sum += p[others[0]] == first && p[others[1]] == other ? get(numbers, p) : 0;
        }
        return sum;
    }

    int slice(int ofAxis, int at, int what) {
        needIndex(isOn(at));
        needArgument(in(ofAxis, 0, 2) && in(what, 0, 4));
        TreeMap<Integer, Integer> map = sliceMap(ofAxis, at);
        return switch (what) {
            case 0 -> map.values().stream().mapToInt(n -> n).sum();
            case 1 -> (int) map.values().stream().filter(n -> n != 0).count();
            case 2 -> map.values().stream().mapToInt(n -> n).max().getAsInt();
            case 3 -> form(ofAxis, at, setting);
            default -> roomOfSlice(ofAxis, at, setting);
        };
    }

    int ordered(int rank, int what) {
        needArgument(rank >= 0 && in(what, 0, 3));
        int[] other = others(axis);
        TreeMap<Integer, int[]> order = new TreeMap<>();
        for (int[] p : points()) {
            if (get(numbers, p) != 0) {
                order.put(p[axis] * 1000 + p[other[0]] + side() * p[other[1]], p);
            }
        }
        if (rank >= order.size()) {
            return -1;
        }
        int[] p = new ArrayList<>(order.values()).get(rank);
        return what == 3 ? get(numbers, p) + 1000 : p[what];
    }

    int difference(int what) {
        needArgument(in(what, 0, 3));
        int[] told = {0, 0, 0, -1};
        int rank = 0;
        for (int[] p : points()) {
            int by = get(numbers, p) - get(marked, p);
            told[0] += by != 0 ? 1 : 0;
            told[1] += by;
            told[2] = Math.max(told[2], Math.abs(by));
            told[3] = by != 0 && told[3] < 0 ? rank : told[3];
            rank++;
        }
        return told[what];
    }

    int count(int what) {
        needArgument(in(what, 0, 8));
        int[] told = {side(), axis, 0, 0, room(axis, setting), 0, 0, 0, saved.size()};
        for (int at = 0; at < side(); at++) {
            told[2] += slice(axis, at, 1);
            told[3] += slice(axis, at, 0);
            told[5 + form(axis, at, setting)]++;
        }
        return told[what];
    }

    int ifKept(int ofAxis) {
        needArgument(in(ofAxis, 0, 2));
        return room(ofAxis, setting);
    }

    int ifPut(int x, int y, int z, int number, int what) {
        needIndex(isOn(x, y, z));
        needArgument(in(number, -999, 999) && in(what, 0, 1));
        Model then = new Model();
        then.numbers = copy(numbers);
        then.axis = axis;
        then.setting = setting;
        then.put(x, y, z, number);
        return what == 0 ? then.count(4) : then.slice(axis, new int[] {x, y, z}[axis], 3);
    }

    private int[] bestOf() {
        int[] best = {0, 1, Integer.MAX_VALUE};
        for (int a = 0; a < 3; a++) {
            int[] filled = new int[side()];
            for (int at = 0; at < side(); at++) {
                filled[at] = slice(a, at, 1);
            }
            for (int most = 1; most <= 64; most++) {
                // A setting that lists no other slice than the one before it takes the same room.
                boolean isNew = most == 1;
                for (int n : filled) {
                    isNew |= n == most;
                }
                if (isNew && room(a, most) < best[2]) {
                    best = new int[] {a, most, room(a, most)};
                }
            }
        }
        return best;
    }

    int best(int what) {
        needArgument(in(what, 0, 2));
        return bestOf()[what];
    }

    private int[] heaviestOf() {
        int[] heaviest = {0, 0, 0, Integer.MIN_VALUE};
        for (int a = 0; a < 3; a++) {
            for (int former = 0; former < side(); former++) {
                for (int latter = 0; latter < side(); latter++) {
                    int sum = line(a, former, latter);
                    if (sum + 10000 > heaviest[3]) {
                        heaviest = new int[] {a, former, latter, sum + 10000};
                    }
                }
            }
        }
        return heaviest;
    }

    int heaviest(int what) {
        needArgument(in(what, 0, 3));
        return heaviestOf()[what];
    }

    double roomShare() {
        return (double) room(axis, setting) / (side() * (1 + side() * side()));
    }

    private List<Long> values() {
        List<Long> v = new ArrayList<>();
        for (int what = 0; what <= 8; what++) {
            v.add((long) count(what));
        }
        v.add((long) setting);
        for (int[] p : points()) {
            v.add((long) get(numbers, p));
        }
        for (int a = 0; a < 3; a++) {
            for (int at = 0; at < side(); at++) {
                for (int what = 0; what <= 4; what++) {
                    v.add((long) slice(a, at, what));
                }
            }
        }
        for (int a = 0; a < 3; a++) {
            for (int former = 0; former < side(); former++) {
                for (int latter = 0; latter < side(); latter++) {
                    v.add((long) line(a, former, latter));
                }
            }
        }
        for (int rank : new int[] {0, 1, 5}) {
            for (int what = 0; what <= 3; what++) {
                v.add((long) ordered(rank, what));
            }
        }
        for (int what = 0; what <= 3; what++) {
            v.add((long) difference(what));
        }
        for (int a = 0; a < 3; a++) {
            v.add((long) ifKept(a));
        }
        for (int number : new int[] {7, 0}) {
            v.add((long) ifPut(0, 1, 0, number, 0));
            v.add((long) ifPut(0, 1, 0, number, 1));
        }
        int[] best = bestOf();
        for (int what = 0; what <= 2; what++) {
            v.add((long) best[what]);
        }
        int[] heaviest = heaviestOf();
        for (int what = 0; what <= 3; what++) {
            v.add((long) heaviest[what]);
        }
        v.add(Double.doubleToLongBits(roomShare()));
        v.add((long) buffer.length());
        for (char sign : buffer.toCharArray()) {
            v.add((long) sign);
        }
        return v;
    }

    long digest() {
        long hash = 2861;
        for (long v : values()) {
            hash = 31 * hash + v;
        }
        return hash;
    }
}
