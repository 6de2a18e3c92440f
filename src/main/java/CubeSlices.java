/** A sparse cube of numbers kept by slices. ../shared/DOC.md says what each call promises. */
public final class CubeSlices {
    public static final int NONE = -1;

    private static final int AXES = 3;
    private static final int FIRST_SIDE = 4;
    private static final int LEAST_SIDE = 2;
    private static final int MOST_SIDE = 8;
    private static final int MOST_POINTS = 512;
    private static final int MOST_NUMBER = 999;
    private static final int FIRST_LISTED = 4;
    private static final int MOST_LISTED = 64;
    private static final int MOST_SIGNS = 60;
    private static final int MOST_SAVED = 6;
    private static final int EMPTY = 0;
    private static final int LISTED = 1;
    private static final int FULL = 2;
    private static final long HASH_START = 2861;

    private final State now = new State();
    private final History history = new History();
    private final Text text = new Text();
    private final Slices slices = new Slices();
    private final Differences differences = new Differences();
    private final LeastRoom leastRoom = new LeastRoom();
    private final HeaviestLine heaviestLine = new HeaviestLine();
    private final int[] numbersBefore = new int[MOST_POINTS];

    public CubeSlices() {
    }

    // ---- numbers

    public int begin(int side) throws IllegalArgumentException {
        if (side < LEAST_SIDE || side > MOST_SIDE) {
            throw new IllegalArgumentException("the side is out of range");
        }
        history.save(now);
        now.clear(side);
        return now.points();
    }

    public int put(int x, int y, int z, int number) throws IndexOutOfBoundsException, IllegalArgumentException {
        if (!now.hasPoint(x, y, z)) {
            throw new IndexOutOfBoundsException("no such point");
        }
        if (!isNumber(number)) {
            throw new IllegalArgumentException("the number is out of range");
        }
        history.save(now);
        int place = now.place(x, y, z);
        int previous = now.number(place);
        now.write(place, number);
        return previous;
    }

    public int add(int x, int y, int z, int size, int number)
            throws IndexOutOfBoundsException, IllegalArgumentException, IllegalStateException {
        boolean isSize = size >= 1 && size <= MOST_SIDE;
        if (!now.hasPoint(x, y, z) || isSize && !now.hasPoint(x + size - 1, y + size - 1, z + size - 1)) {
            throw new IndexOutOfBoundsException("no such point or box");
        }
        if (!isSize || !isNumber(number)) {
            throw new IllegalArgumentException("the size or the number is out of range");
        }
        int corner = now.place(x, y, z);
        if (!now.boxCanTake(corner, size, number)) {
            throw new IllegalStateException("a number would be out of range");
        }
        history.save(now);
        return now.addToBox(corner, size, number);
    }

    public int wipe(int axis, int at) throws IndexOutOfBoundsException, IllegalArgumentException {
        if (!now.hasCoordinate(at)) {
            throw new IndexOutOfBoundsException("no such coordinate");
        }
        if (!isAxis(axis)) {
            throw new IllegalArgumentException("the axis is out of range");
        }
        history.save(now);
        return now.clearSlice(axis, at);
    }

    public int shift(int axis) throws IllegalArgumentException {
        if (!isAxis(axis)) {
            throw new IllegalArgumentException("the axis is out of range");
        }
        history.save(now);
        int changed = 0;
        for (int latter = 0; latter < now.side; latter++) {
            for (int former = 0; former < now.side; former++) {
                changed += now.shiftLine(axis, former, latter);
            }
        }
        return changed;
    }

    public int turn() {
        history.save(now);
        copyRow(now.numbers, numbersBefore);
        for (int z = 0; z < now.side; z++) {
            for (int y = 0; y < now.side; y++) {
                for (int x = 0; x < now.side; x++) {
                    now.write(now.place(z, x, y), cell(numbersBefore, now.place(x, y, z)));
                }
            }
        }
        return roomBy(now.axis);
    }

    public int keep(int axis) throws IllegalArgumentException {
        if (!isAxis(axis)) {
            throw new IllegalArgumentException("the axis is out of range");
        }
        history.save(now);
        now.axis = axis;
        return roomBy(axis);
    }

    public int mark() {
        differences.look(now);
        history.save(now);
        copyRow(now.numbers, now.marked);
        return differences.points;
    }

    public int goBack() {
        differences.look(now);
        history.save(now);
        copyRow(now.marked, now.numbers);
        return differences.points;
    }

    public int set(int numbers) throws IllegalArgumentException {
        if (numbers < 1 || numbers > MOST_LISTED) {
            throw new IllegalArgumentException("the setting is out of range");
        }
        history.save(now);
        int previous = now.mostListed;
        now.mostListed = numbers;
        return previous;
    }

    // ---- texts

    public int append(int code) throws IllegalArgumentException, IllegalStateException {
        if (code < 33 || code > 126) {
            throw new IllegalArgumentException("the code is not 33 to 126");
        }
        if (text.length >= MOST_SIGNS) {
            throw new IllegalStateException("the buffer is full");
        }
        text.attach(code);
        return text.length;
    }

    public int clearBuffer() {
        int length = text.length;
        text.length = 0;
        return length;
    }

    public int firstError() {
        return text.findError();
    }

    public int read() throws IllegalArgumentException {
        if (!text.tellsPoints()) {
            throw new IllegalArgumentException("the buffer does not tell points");
        }
        history.save(now);
        int done = 0;
        int start = 0;
        for (int i = 0; i <= text.length; i++) {
            if (i == text.length || text.sign(i) == ';') {
                if (!doPoint(start, i)) {
                    break;
                }
                done++;
                start = i + 1;
            }
        }
        text.length = 0;
        return done;
    }

    public int undo() throws IllegalStateException {
        if (history.size == 0) {
            throw new IllegalStateException("no state is saved");
        }
        now.copyFrom(history.dropLatest());
        return history.size;
    }

    // ---- looks; nothing is changed

    public int at(int x, int y, int z) throws IndexOutOfBoundsException {
        if (!now.hasPoint(x, y, z)) {
            throw new IndexOutOfBoundsException("no such point");
        }
        return now.number(now.place(x, y, z));
    }

    public int line(int axis, int first, int other) throws IndexOutOfBoundsException, IllegalArgumentException {
        if (!now.hasCoordinate(first) || !now.hasCoordinate(other)) {
            throw new IndexOutOfBoundsException("no such coordinate");
        }
        if (!isAxis(axis)) {
            throw new IllegalArgumentException("the axis is out of range");
        }
        return now.lineSum(axis, first, other);
    }

    public int slice(int axis, int at, int what) throws IndexOutOfBoundsException, IllegalArgumentException {
        if (!now.hasCoordinate(at)) {
            throw new IndexOutOfBoundsException("no such coordinate");
        }
        if (!isAxis(axis) || what < 0 || what > 4) {
            throw new IllegalArgumentException("the axis or what is asked is out of range");
        }
        slices.lookAt(now, axis, at);
        return slices.told(at, what, now.mostListed);
    }

    public int ordered(int rank, int what) throws IllegalArgumentException {
        if (rank < 0 || what < 0 || what > 3) {
            throw new IllegalArgumentException("the rank or what is asked is out of range");
        }
        return orderedPoint(now.placeOfRank(rank), what);
    }

    public int difference(int what) throws IllegalArgumentException {
        if (what < 0 || what > 3) {
            throw new IllegalArgumentException("what is asked is out of range");
        }
        differences.look(now);
        return differences.told(what);
    }

    public int count(int what) throws IllegalArgumentException {
        if (what < 0 || what > 8) {
            throw new IllegalArgumentException("what is asked is out of range");
        }
        switch (what) {
            case 0:
                return now.side;
            case 1:
                return now.axis;
            case 2:
                return now.filled();
            case 3:
                return now.sum();
            case 4:
                return roomBy(now.axis);
            case 8:
                return history.size;
            default:
                slices.look(now, now.axis);
                return slices.countOfForm(what - 5, now.mostListed);
        }
    }

    // ---- what would be; nothing is changed

    public int ifKept(int axis) throws IllegalArgumentException {
        if (!isAxis(axis)) {
            throw new IllegalArgumentException("the axis is out of range");
        }
        return roomBy(axis);
    }

    public int ifPut(int x, int y, int z, int number, int what)
            throws IndexOutOfBoundsException, IllegalArgumentException {
        if (!now.hasPoint(x, y, z)) {
            throw new IndexOutOfBoundsException("no such point");
        }
        if (!isNumber(number) || what < 0 || what > 1) {
            throw new IllegalArgumentException("the number or what is asked is out of range");
        }
        int place = now.place(x, y, z);
        int previous = now.number(place);
        now.write(place, number);
        slices.look(now, now.axis);
        now.write(place, previous);
        if (what == 0) {
            return slices.roomOfAll(now.mostListed);
        }
        return slices.form(now.coordinate(place, now.axis), now.mostListed);
    }

    public int best(int what) throws IllegalArgumentException {
        if (what < 0 || what > 2) {
            throw new IllegalArgumentException("what is asked is out of range");
        }
        leastRoom.look(now, slices);
        return leastRoom.told(what);
    }

    public int heaviest(int what) throws IllegalArgumentException {
        if (what < 0 || what > 3) {
            throw new IllegalArgumentException("what is asked is out of range");
        }
        heaviestLine.look(now);
        return heaviestLine.told(what);
    }

    public double roomShare() {
        int roomIfFull = now.side * (1 + now.side * now.side);
        return roomIfFull > 0 ? (double) roomBy(now.axis) / roomIfFull : 0;
    }

    public long digest() {
        long hash = HASH_START;
        for (int what = 0; what <= 8; what++) {
            hash = mixed(hash, count(what));
        }
        hash = mixed(hash, now.mostListed);
        for (int place = 0; place < now.points(); place++) {
            hash = mixed(hash, now.number(place));
        }
        hash = withSlices(hash);
        hash = withLines(hash);
        hash = withOrder(hash);
        hash = withDifferences(hash);
        hash = withWhatWouldBe(hash);
        return withText(hash);
    }

    // ---- parts of the calls

    private int roomBy(int axis) {
        slices.look(now, axis);
        return slices.roomOfAll(now.mostListed);
    }

    private int orderedPoint(int place, int what) {
        if (place == NONE) {
            return NONE;
        }
        return what == 3 ? now.number(place) + 1000 : now.coordinate(place, what);
    }

    /** Does the point told by the buffer from start to end; false if it can't be done. */
    private boolean doPoint(int start, int end) {
        int x = text.sign(start) - '0';
        int y = text.sign(start + 1) - '0';
        int z = text.sign(start + 2) - '0';
        if (!now.hasPoint(x, y, z)) {
            return false;
        }
        int place = now.place(x, y, z);
        int number = text.numberIn(start + 4, end);
        if (text.sign(start + 3) == '+') {
            number += now.number(place);
        }
        if (!isNumber(number)) {
            return false;
        }
        now.write(place, number);
        return true;
    }

    // ---- parts of the digest, in their order

    private long withSlices(long hash) {
        long result = hash;
        for (int axis = 0; axis < AXES; axis++) {
            slices.look(now, axis);
            for (int at = 0; at < now.side; at++) {
                for (int what = 0; what <= 4; what++) {
                    result = mixed(result, slices.told(at, what, now.mostListed));
                }
            }
        }
        return result;
    }

    private long withLines(long hash) {
        long result = hash;
        for (int axis = 0; axis < AXES; axis++) {
            for (int former = 0; former < now.side; former++) {
                for (int latter = 0; latter < now.side; latter++) {
                    result = mixed(result, now.lineSum(axis, former, latter));
                }
            }
        }
        return result;
    }

    private long withOrder(long hash) {
        return withOrdered(withOrdered(withOrdered(hash, 0), 1), 5);
    }

    private long withOrdered(long hash, int rank) {
        long result = hash;
        int place = now.placeOfRank(rank);
        for (int what = 0; what <= 3; what++) {
            result = mixed(result, orderedPoint(place, what));
        }
        return result;
    }

    private long withDifferences(long hash) {
        long result = hash;
        differences.look(now);
        for (int what = 0; what <= 3; what++) {
            result = mixed(result, differences.told(what));
        }
        return result;
    }

    private long withWhatWouldBe(long hash) {
        long result = hash;
        for (int axis = 0; axis < AXES; axis++) {
            result = mixed(result, ifKept(axis));
        }
        result = mixed(result, ifPut(0, 1, 0, 7, 0));
        result = mixed(result, ifPut(0, 1, 0, 7, 1));
        result = mixed(result, ifPut(0, 1, 0, 0, 0));
        result = mixed(result, ifPut(0, 1, 0, 0, 1));
        leastRoom.look(now, slices);
        for (int what = 0; what <= 2; what++) {
            result = mixed(result, leastRoom.told(what));
        }
        heaviestLine.look(now);
        for (int what = 0; what <= 3; what++) {
            result = mixed(result, heaviestLine.told(what));
        }
        return mixed(result, bitsOf(roomShare()));
    }

    private long withText(long hash) {
        long result = mixed(hash, text.length);
        for (int i = 0; i < text.length; i++) {
            result = mixed(result, text.sign(i));
        }
        return result;
    }

    private static long mixed(long hash, long value) {
        return 31 * hash + value;
    }

    /** By hand, since the language leaves out Double; a share is above 0 and below 2, and each step is exact. */
    private static long bitsOf(double share) {
        if (!(share > 0)) {
            return 0;
        }
        double fraction = share;
        long exponent = 1023;
        for (int i = 0; i < 1000 && fraction < 1; i++) {
            fraction = fraction * 2;
            exponent--;
        }
        return (exponent << 52) + (long) ((fraction - 1) * (double) (1L << 52));
    }

    // ---- what all parts use

    private static boolean isAxis(int axis) {
        return axis >= 0 && axis < AXES;
    }

    private static boolean isNumber(int number) {
        return number >= -MOST_NUMBER && number <= MOST_NUMBER;
    }

    /** The former one of the other two axes. */
    private static int formerOf(int axis) {
        return axis == 0 ? 1 : 0;
    }

    /** The latter one of the other two axes. */
    private static int latterOf(int axis) {
        return axis == 2 ? 1 : 2;
    }

    private static int cell(int[] row, int index) {
        return row != null && index >= 0 && index < row.length ? row[index] : 0;
    }

    private static void setCell(int[] row, int index, int number) {
        if (row != null && index >= 0 && index < row.length) {
            row[index] = number;
        }
    }

    private static void copyRow(int[] from, int[] to) {
        if (from != null && to != null && from.length <= to.length) {
            System.arraycopy(from, 0, to, 0, from.length);
        }
    }

    /** All that undo restores. A point's place in the rows is x + side * y + side * side * z. */
    private static final class State {
        private int side = FIRST_SIDE;
        private int axis = 2;
        private int mostListed = FIRST_LISTED;
        private final int[] numbers = new int[MOST_POINTS];
        private final int[] marked = new int[MOST_POINTS];

        void copyFrom(State other) {
            if (other == null) {
                return;
            }
            side = other.side;
            axis = other.axis;
            mostListed = other.mostListed;
            copyRow(other.numbers, numbers);
            copyRow(other.marked, marked);
        }

        void clear(int newSide) {
            side = newSide;
            for (int place = 0; place < MOST_POINTS; place++) {
                setCell(numbers, place, 0);
                setCell(marked, place, 0);
            }
        }

        int points() {
            return side * side * side;
        }

        boolean hasCoordinate(int at) {
            return at >= 0 && at < side;
        }

        boolean hasPoint(int x, int y, int z) {
            return hasCoordinate(x) && hasCoordinate(y) && hasCoordinate(z);
        }

        /** How far apart the places of neighbours along an axis are. */
        int step(int ofAxis) {
            if (ofAxis == 0) {
                return 1;
            }
            return ofAxis == 1 ? side : side * side;
        }

        int place(int x, int y, int z) {
            return x + side * (y + side * z);
        }

        int coordinate(int place, int ofAxis) {
            int step = step(ofAxis);
            return step > 0 && side > 0 ? place / step % side : 0;
        }

        int lineStart(int ofAxis, int former, int latter) {
            return former * step(formerOf(ofAxis)) + latter * step(latterOf(ofAxis));
        }

        /** The place in a slice with a latter coordinate and the former one 0. */
        int rowStart(int ofAxis, int at, int latter) {
            return at * step(ofAxis) + latter * step(latterOf(ofAxis));
        }

        int number(int place) {
            return cell(numbers, place);
        }

        void write(int place, int number) {
            setCell(numbers, place, number);
        }

        int filled() {
            int filled = 0;
            for (int place = 0; place < points(); place++) {
                if (number(place) != 0) {
                    filled++;
                }
            }
            return filled;
        }

        int sum() {
            int sum = 0;
            for (int place = 0; place < points(); place++) {
                sum += number(place);
            }
            return sum;
        }

        boolean boxCanTake(int corner, int size, int added) {
            for (int z = 0; z < size; z++) {
                for (int y = 0; y < size; y++) {
                    for (int x = 0; x < size; x++) {
                        if (!isNumber(number(corner + place(x, y, z)) + added)) {
                            return false;
                        }
                    }
                }
            }
            return true;
        }

        /** Returns how many points of the box are other than 0 then. */
        int addToBox(int corner, int size, int added) {
            int filled = 0;
            for (int z = 0; z < size; z++) {
                for (int y = 0; y < size; y++) {
                    for (int x = 0; x < size; x++) {
                        int place = corner + place(x, y, z);
                        int sum = number(place) + added;
                        write(place, sum);
                        if (sum != 0) {
                            filled++;
                        }
                    }
                }
            }
            return filled;
        }

        /** Returns how many numbers of the slice were other than 0. */
        int clearSlice(int ofAxis, int at) {
            int filled = 0;
            int step = step(formerOf(ofAxis));
            for (int latter = 0; latter < side; latter++) {
                int place = rowStart(ofAxis, at, latter);
                for (int former = 0; former < side; former++) {
                    if (number(place) != 0) {
                        filled++;
                    }
                    write(place, 0);
                    place += step;
                }
            }
            return filled;
        }

        /** Returns how many points of the line have another number then. */
        int shiftLine(int ofAxis, int former, int latter) {
            int changed = 0;
            int step = step(ofAxis);
            int place = lineStart(ofAxis, former, latter);
            int arriving = number(place + (side - 1) * step);
            for (int k = 0; k < side; k++) {
                int leaving = number(place);
                if (leaving != arriving) {
                    changed++;
                }
                write(place, arriving);
                arriving = leaving;
                place += step;
            }
            return changed;
        }

        int lineSum(int ofAxis, int former, int latter) {
            int sum = 0;
            int step = step(ofAxis);
            int place = lineStart(ofAxis, former, latter);
            for (int k = 0; k < side; k++) {
                sum += number(place);
                place += step;
            }
            return sum;
        }

        /** The place of the point with a rank in the order; NONE if there is none. */
        int placeOfRank(int rank) {
            int ahead = 0;
            int step = step(formerOf(axis));
            for (int at = 0; at < side; at++) {
                for (int latter = 0; latter < side; latter++) {
                    int place = rowStart(axis, at, latter);
                    for (int former = 0; former < side; former++) {
                        if (number(place) != 0) {
                            if (ahead == rank) {
                                return place;
                            }
                            ahead++;
                        }
                        place += step;
                    }
                }
            }
            return NONE;
        }
    }

    /** The saved states, in a ring whose rows are used again. */
    private static final class History {
        private final State[] states = new State[MOST_SAVED];
        private int oldest = 0;
        private int size = 0;

        History() {
            for (int i = 0; i < states.length; i++) {
                states[i] = new State();
            }
        }

        void save(State state) {
            if (size == MOST_SAVED) {
                oldest = (oldest + 1) % MOST_SAVED;
                size--;
            }
            State slot = slot(size);
            if (slot != null) {
                slot.copyFrom(state);
            }
            size++;
        }

        /** The latest state; its row is used again by the next save. */
        State dropLatest() {
            if (size > 0) {
                size--;
            }
            return slot(size);
        }

        private State slot(int age) {
            int index = (oldest + age) % MOST_SAVED;
            return index >= 0 && index < states.length ? states[index] : null;
        }
    }

    /** The buffer, and what it tells. */
    private static final class Text {
        private static final int X = 0;
        private static final int Z = 2;
        private static final int SIGN = 3;
        private static final int MINUS_OR_DIGIT = 4;
        private static final int DIGIT = 5;
        private static final int ONE_DIGIT = 6;
        private static final int TWO_DIGITS = 7;
        private static final int WHOLE_NUMBER = 8;
        private static final int ERROR = 9;

        private final int[] signs = new int[MOST_SIGNS];
        private int length = 0;

        void attach(int code) {
            setCell(signs, length, code);
            length++;
        }

        int sign(int index) {
            return index < length ? cell(signs, index) : 0;
        }

        int findError() {
            int reached = X;
            for (int i = 0; i < length; i++) {
                reached = next(reached, sign(i));
                if (reached == ERROR) {
                    return i;
                }
            }
            return length;
        }

        boolean tellsPoints() {
            int reached = X;
            for (int i = 0; i < length; i++) {
                reached = next(reached, sign(i));
            }
            return reached == ONE_DIGIT || reached == TWO_DIGITS || reached == WHOLE_NUMBER;
        }

        /** The number told from start to end, of a text without syntax errors. */
        int numberIn(int start, int end) {
            boolean negative = sign(start) == '-';
            int size = 0;
            for (int i = negative ? start + 1 : start; i < end; i++) {
                size = 10 * size + sign(i) - '0';
            }
            return negative ? -size : size;
        }

        private static int next(int reached, int sign) {
            switch (reached) {
                case SIGN:
                    return sign == '=' || sign == '+' ? MINUS_OR_DIGIT : ERROR;
                case MINUS_OR_DIGIT:
                    return sign == '-' ? DIGIT : afterFirstDigit(sign);
                case DIGIT:
                    return afterFirstDigit(sign);
                case ONE_DIGIT:
                case TWO_DIGITS:
                    if (sign >= '0' && sign <= '9') {
                        return reached + 1;
                    }
                    return sign == ';' ? X : ERROR;
                case WHOLE_NUMBER:
                    return sign == ';' ? X : ERROR;
                default:
                    return reached <= Z && sign >= '0' && sign <= '7' ? reached + 1 : ERROR;
            }
        }

        /** A 0 is a whole number, since none has leading zeros. */
        private static int afterFirstDigit(int sign) {
            if (sign == '0') {
                return WHOLE_NUMBER;
            }
            return sign >= '1' && sign <= '9' ? ONE_DIGIT : ERROR;
        }
    }

    /** What is seen of the slices of an axis, before a setting gives them their forms. */
    private static final class Slices {
        private int side = 0;
        private final int[] sums = new int[MOST_SIDE];
        private final int[] filled = new int[MOST_SIDE];
        private final int[] greatest = new int[MOST_SIDE];
        private final int[] roomIfListed = new int[MOST_SIDE];

        void look(State state, int axis) {
            for (int at = 0; at < state.side; at++) {
                lookAt(state, axis, at);
            }
        }

        void lookAt(State state, int axis, int at) {
            side = state.side;
            int sum = 0;
            int others = 0;
            int most = -MOST_NUMBER;
            int room = 1;
            boolean followsOne = false;
            int step = state.step(formerOf(axis));
            for (int latter = 0; latter < side; latter++) {
                int place = state.rowStart(axis, at, latter);
                for (int former = 0; former < side; former++) {
                    int number = state.number(place);
                    place += step;
                    sum += number;
                    most = Math.max(most, number);
                    if (number != 0) {
                        others++;
                        room += followsOne ? 1 : 2;
                    }
                    followsOne = number != 0;
                }
            }
            setCell(sums, at, sum);
            setCell(filled, at, others);
            setCell(greatest, at, most);
            setCell(roomIfListed, at, room);
        }

        int form(int at, int mostListed) {
            int others = cell(filled, at);
            if (others == 0) {
                return EMPTY;
            }
            return others <= mostListed ? LISTED : FULL;
        }

        /** The room of a slice by itself. */
        int room(int at, int mostListed) {
            switch (form(at, mostListed)) {
                case EMPTY:
                    return 1;
                case LISTED:
                    return cell(roomIfListed, at);
                default:
                    return 1 + side * side;
            }
        }

        int roomOfAll(int mostListed) {
            int room = 0;
            boolean followsEmpty = false;
            for (int at = 0; at < side; at++) {
                boolean isEmpty = form(at, mostListed) == EMPTY;
                if (!isEmpty || !followsEmpty) {
                    room += room(at, mostListed);
                }
                followsEmpty = isEmpty;
            }
            return room;
        }

        int countOfForm(int form, int mostListed) {
            int slices = 0;
            for (int at = 0; at < side; at++) {
                if (form(at, mostListed) == form) {
                    slices++;
                }
            }
            return slices;
        }

        int told(int at, int what, int mostListed) {
            switch (what) {
                case 0:
                    return cell(sums, at);
                case 1:
                    return cell(filled, at);
                case 2:
                    return cell(greatest, at);
                case 3:
                    return form(at, mostListed);
                default:
                    return room(at, mostListed);
            }
        }
    }

    /** The differences from the mark. */
    private static final class Differences {
        private int points = 0;
        private int sum = 0;
        private int greatestSize = 0;
        private int firstPlace = NONE;

        void look(State state) {
            points = 0;
            sum = 0;
            greatestSize = 0;
            firstPlace = NONE;
            for (int place = 0; place < state.points(); place++) {
                int difference = state.number(place) - cell(state.marked, place);
                if (difference != 0) {
                    if (points == 0) {
                        firstPlace = place;
                    }
                    points++;
                    sum += difference;
                    greatestSize = Math.max(greatestSize, Math.abs(difference));
                }
            }
        }

        int told(int what) {
            switch (what) {
                case 0:
                    return points;
                case 1:
                    return sum;
                case 2:
                    return greatestSize;
                default:
                    return firstPlace;
            }
        }
    }

    /** The axis and the setting with the least room. */
    private static final class LeastRoom {
        private static final int MORE_THAN_ANY_ROOM = 1000000;

        private int axis = 0;
        private int mostListed = 0;
        private int room = 0;

        void look(State state, Slices slices) {
            room = MORE_THAN_ANY_ROOM;
            for (int a = 0; a < AXES; a++) {
                slices.look(state, a);
                for (int most = 1; most <= MOST_LISTED; most++) {
                    int taken = slices.roomOfAll(most);
                    if (taken < room) {
                        axis = a;
                        mostListed = most;
                        room = taken;
                    }
                }
            }
        }

        int told(int what) {
            switch (what) {
                case 0:
                    return axis;
                case 1:
                    return mostListed;
                default:
                    return room;
            }
        }
    }

    /** The line with the greatest sum. */
    private static final class HeaviestLine {
        private static final int LESS_THAN_ANY_SUM = -1000000;

        private int axis = 0;
        private int former = 0;
        private int latter = 0;
        private int sum = 0;

        void look(State state) {
            sum = LESS_THAN_ANY_SUM;
            for (int a = 0; a < AXES; a++) {
                for (int f = 0; f < state.side; f++) {
                    for (int l = 0; l < state.side; l++) {
                        int weight = state.lineSum(a, f, l);
                        if (weight > sum) {
                            axis = a;
                            former = f;
                            latter = l;
                            sum = weight;
                        }
                    }
                }
            }
        }

        int told(int what) {
            switch (what) {
                case 0:
                    return axis;
                case 1:
                    return former;
                case 2:
                    return latter;
                default:
                    return sum + 10000;
            }
        }
    }
}
