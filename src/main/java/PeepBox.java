import java.util.Arrays;

/** A peepshow box: planes with shapes, holes, viewers, and what they see and pay. */
public final class PeepBox {
    public static final int SYNTAX_ERROR = -2;
    public static final int OUT_OF_RANGE = -3;
    public static final int WRONG_LINE = -4;
    public static final int TOO_MANY = -5;
    public static final int TOO_DEEP = -6;

    private static final int MOST_COLUMNS = 12;
    private static final int MOST_ROWS = 8;
    private static final int MOST_CELLS = MOST_COLUMNS * MOST_ROWS;
    private static final int MOST_PLANES = 5;
    private static final int MOST_HOLES = 4;
    private static final int MOST_VIEWERS = 20;
    private static final int MOST_HEIGHT = 9;
    private static final int MOST_COINS = 999;
    private static final int MOST_PRICE = 999;
    private static final int MOST_REACH = 9;
    private static final int MOST_LENGTH = 20;
    private static final int MOST_BYTES = 800;
    private static final int MOST_UNDONE = 8;
    private static final int KINDS = 26;
    private static final int OPEN = -1;
    private static final int NOBODY = -1;
    private static final int PLANE_FACTOR = 100;

    private static final int STATES = 14;
    private static final int PLANE_FACTS = 3;
    private static final int HOLE_FACTS = 5;

    /** Far above the some 420 ticks that 20 looks of 20 ticks, one after the other, can take. */
    private static final int ENDLESS = 100000;

    private final Setup setup = new Setup();
    private final Show now = new Show();
    private final Show trial = new Show();
    private final View view = new View();
    private final View trialView = new View();
    private final Show[] past = new Show[MOST_UNDONE];
    private int nextPast = 0;
    private int undoable = 0;

    public PeepBox() {
        for (int i = 0; i < MOST_UNDONE; i++) {
            past[i] = new Show();
        }
        now.begin(4, 3, 2);
        now.box.addHole(0, 0);
        view.update(now.box);
    }

    public int append(int w0, int w1, int w2, int w3, int w4) {
        if (!setup.hasRoomFor(20)) {
            return -1;
        }
        setup.put(w0);
        setup.put(w1);
        setup.put(w2);
        setup.put(w3);
        setup.put(w4);
        return setup.filled;
    }

    public int load(int length) throws IllegalArgumentException {
        if (length < 0 || length > setup.filled) {
            throw new IllegalArgumentException("not a length of the buffer");
        }
        if (!setup.read(length)) {
            return setup.error;
        }
        remember();
        now.copyFrom(setup.show);
        view.update(now.box);
        return now.crowd.viewers;
    }

    public int errorOffset() {
        return setup.errorAt;
    }

    public int state(int what) throws IllegalArgumentException {
        Box box = now.box;
        Crowd crowd = now.crowd;
        switch (what) {
            case 0: return box.width;
            case 1: return box.height;
            case 2: return box.planes;
            case 3: return box.holes;
            case 4: return box.reach;
            case 5: return crowd.lookLength;
            case 6: return crowd.time;
            case 7: return crowd.viewers;
            case 8: return crowd.count(Crowd.WAITS);
            case 9: return crowd.count(Crowd.LOOKS);
            case 10: return crowd.count(Crowd.LEFT);
            case 11: return crowd.count(Crowd.WENT);
            case 12: return crowd.allPaid();
            case 13: return box.holes - crowd.count(Crowd.LOOKS);
            default: throw new IllegalArgumentException("no such number of the state");
        }
    }

    public int stands(int plane, int x, int y) throws IndexOutOfBoundsException {
        requirePlane(plane);
        requireCell(x, y);
        return now.box.kindAt(plane, x, y);
    }

    public int plane(int plane, int what)
            throws IndexOutOfBoundsException, IllegalArgumentException {
        requirePlane(plane);
        switch (what) {
            case 0: return now.box.pulls[plane];
            case 1: return now.box.standing(plane);
            case 2: return view.targetsOf(now.box, plane);
            default: throw new IllegalArgumentException("no such number of a plane");
        }
    }

    public int hole(int hole, int what)
            throws IndexOutOfBoundsException, IllegalArgumentException {
        requireHole(hole);
        switch (what) {
            case 0: return now.box.holeX[hole];
            case 1: return now.box.holeY[hole];
            case 2: return now.crowd.lookers[hole];
            case 3: return view.kinds[hole];
            case 4: return view.depths[hole];
            default: throw new IllegalArgumentException("no such number of a hole");
        }
    }

    public int sees(int hole, int x, int y) throws IndexOutOfBoundsException {
        requireHole(hole);
        requireCell(x, y);
        return view.seen[View.target(hole, x, y)];
    }

    public int shown(int hole, int kind)
            throws IndexOutOfBoundsException, IllegalArgumentException {
        requireHole(hole);
        requireRange(kind, 0, KINDS - 1);
        return view.counts[hole * KINDS + kind];
    }

    public int why(int hole, int plane, int x, int y) throws IndexOutOfBoundsException {
        requireHole(hole);
        requirePlane(plane);
        requireCell(x, y);
        return view.reason(now.box, hole, plane, x, y);
    }

    public int viewer(int viewer, int what)
            throws IndexOutOfBoundsException, IllegalArgumentException {
        requireViewer(viewer);
        requireRange(what, 0, Crowd.FACTS - 1);
        return now.crowd.fact(viewer, what);
    }

    public int price(int viewer, int hole) throws IndexOutOfBoundsException {
        requireViewer(viewer);
        requireHole(hole);
        if (!now.box.canUse(now.crowd.fact(viewer, Crowd.HEIGHT), hole)) {
            return -1;
        }
        return view.priceFor(now.box, now.crowd.fact(viewer, Crowd.WISH), hole);
    }

    public int bestPull(int plane, int kind)
            throws IndexOutOfBoundsException, IllegalArgumentException {
        requirePlane(plane);
        requireRange(kind, 0, KINDS - 1);
        if (now.box.isBack(plane)) {
            return 0;
        }
        trial.box.copyFrom(now.box);
        int best = 0;
        int most = -1;
        for (int rows = 0; rows <= now.box.height; rows++) {
            trial.box.pulls[plane] = rows;
            trialView.update(trial.box);
            int count = trialView.countInAll(trial.box, kind);
            if (count > most) {
                most = count;
                best = rows;
            }
        }
        return best;
    }

    public int foretold(int ticks, int what) throws IllegalArgumentException {
        requireRange(ticks, 1, 100);
        requireRange(what, 0, 3);
        Crowd crowd = trial.crowd;
        crowd.copyFrom(now.crowd);
        for (int i = 0; i < ticks; i++) {
            crowd.tick(now.box, view);
        }
        switch (what) {
            case 0: return crowd.allPaid();
            case 1: return crowd.count(Crowd.WAITS);
            case 2: return crowd.count(Crowd.LOOKS);
            default: return crowd.count(Crowd.WENT);
        }
    }

    public int emptyIn() {
        Crowd crowd = trial.crowd;
        crowd.copyFrom(now.crowd);
        int ticks = 0;
        while (ticks < ENDLESS && crowd.isBusy()) {
            crowd.tick(now.box, view);
            ticks++;
        }
        return ticks;
    }

    public float meanPaid() {
        int left = now.crowd.count(Crowd.LEFT);
        return left == 0 ? 0.0f : (float) now.crowd.allPaid() / (float) left;
    }

    public int pass(int ticks) throws IllegalArgumentException {
        requireRange(ticks, 1, 50);
        remember();
        int paidBefore = now.crowd.allPaid();
        for (int i = 0; i < ticks; i++) {
            now.crowd.tick(now.box, view);
        }
        return now.crowd.allPaid() - paidBefore;
    }

    public int pull(int plane, int rows)
            throws IndexOutOfBoundsException, IllegalArgumentException, IllegalStateException {
        requirePlane(plane);
        requireRange(rows, 0, now.box.height);
        if (now.box.isBack(plane)) {
            throw new IllegalStateException("the back can't be pulled");
        }
        remember();
        int rowsBefore = now.box.pulls[plane];
        now.box.pulls[plane] = rows;
        view.update(now.box);
        return rowsBefore;
    }

    public int come(int height, int wish, int coins)
            throws IllegalArgumentException, IllegalStateException {
        requireRange(height, 0, MOST_HEIGHT);
        requireRange(wish, 0, KINDS - 1);
        requireRange(coins, 0, MOST_COINS);
        if (now.crowd.isFull()) {
            throw new IllegalStateException("there is no room for one more viewer");
        }
        remember();
        now.crowd.add(height, wish, coins);
        return now.crowd.viewers - 1;
    }

    public int length(int ticks) throws IllegalArgumentException {
        requireRange(ticks, 1, MOST_LENGTH);
        remember();
        int lengthBefore = now.crowd.lookLength;
        now.crowd.lookLength = ticks;
        return lengthBefore;
    }

    public int undo() {
        if (undoable == 0) {
            return -1;
        }
        nextPast = (nextPast + MOST_UNDONE - 1) % MOST_UNDONE;
        undoable--;
        now.copyFrom(past[nextPast]);
        view.update(now.box);
        return undoable;
    }

    public long checksum() {
        long sum = 0;
        for (int what = 0; what < STATES; what++) {
            sum = 31 * sum + state(what);
        }
        for (int plane = 0; plane < now.box.planes; plane++) {
            for (int what = 0; what < PLANE_FACTS; what++) {
                sum = 31 * sum + plane(plane, what);
            }
        }
        for (int hole = 0; hole < now.box.holes; hole++) {
            for (int what = 0; what < HOLE_FACTS; what++) {
                sum = 31 * sum + hole(hole, what);
            }
        }
        for (int viewer = 0; viewer < now.crowd.viewers; viewer++) {
            for (int what = 0; what < Crowd.FACTS; what++) {
                sum = 31 * sum + viewer(viewer, what);
            }
        }
        return sum;
    }

    /** Called ahead of each change, so that undo finds what stood before it. */
    private void remember() {
        past[nextPast].copyFrom(now);
        nextPast = (nextPast + 1) % MOST_UNDONE;
        undoable = Math.min(undoable + 1, MOST_UNDONE);
    }

    private void requirePlane(int plane) {
        if (plane < 0 || plane >= now.box.planes) {
            throw new IndexOutOfBoundsException("no such plane");
        }
    }

    private void requireHole(int hole) {
        if (hole < 0 || hole >= now.box.holes) {
            throw new IndexOutOfBoundsException("no such hole");
        }
    }

    private void requireViewer(int viewer) {
        if (viewer < 0 || viewer >= now.crowd.viewers) {
            throw new IndexOutOfBoundsException("no such viewer");
        }
    }

    private void requireCell(int x, int y) {
        if (x < 0 || x >= now.box.width || y < 0 || y >= now.box.height) {
            throw new IndexOutOfBoundsException("no such cell");
        }
    }

    private static void requireRange(int number, int low, int high) {
        if (number < low || number > high) {
            throw new IllegalArgumentException("out of range");
        }
    }

    /** The document's rule for prices, taken for every division: by 0 it gives 0. */
    private static long quotient(long dividend, long divisor) {
        return divisor == 0 ? 0 : dividend / divisor;
    }

    private static int limited(long number, int low, int high) {
        return (int) Math.max(low, Math.min(high, number));
    }

    /** All data that a change may change: what undo brings back. */
    private static final class Show {
        final Box box = new Box();
        final Crowd crowd = new Crowd();

        void begin(int width, int height, int planes) {
            box.begin(width, height, planes);
            crowd.begin();
        }

        void copyFrom(Show other) {
            box.copyFrom(other.box);
            crowd.copyFrom(other.crowd);
        }
    }

    /** The planes and their pulls, the holes, and the rule of the price. */
    private static final class Box {
        int width = 1;
        int height = 1;
        int planes = 1;
        int holes = 0;
        int reach = MOST_REACH;
        final int[] cells = new int[MOST_PLANES * MOST_CELLS];
        final int[] pulls = new int[MOST_PLANES];
        final int[] holeX = new int[MOST_HOLES];
        final int[] holeY = new int[MOST_HOLES];
        final Price price = new Price();

        void begin(int newWidth, int newHeight, int newPlanes) {
            width = newWidth;
            height = newHeight;
            planes = newPlanes;
            holes = 0;
            reach = MOST_REACH;
            Arrays.fill(cells, OPEN);
            Arrays.fill(pulls, 0);
            for (int y = 0; y < height; y++) {
                for (int x = 0; x < width; x++) {
                    setKind(planes - 1, x, y, 0);
                }
            }
            price.begin();
        }

        void copyFrom(Box other) {
            width = other.width;
            height = other.height;
            planes = other.planes;
            holes = other.holes;
            reach = other.reach;
            System.arraycopy(other.cells, 0, cells, 0, cells.length);
            System.arraycopy(other.pulls, 0, pulls, 0, pulls.length);
            System.arraycopy(other.holeX, 0, holeX, 0, holeX.length);
            System.arraycopy(other.holeY, 0, holeY, 0, holeY.length);
            price.copyFrom(other.price);
        }

        void addHole(int x, int y) {
            if (holes < MOST_HOLES) {
                holeX[holes] = x;
                holeY[holes] = y;
                holes++;
            }
        }

        boolean isBack(int plane) {
            return plane == planes - 1;
        }

        boolean canUse(int viewerHeight, int hole) {
            return Math.abs(viewerHeight - (height - 1 - holeY[hole])) <= reach;
        }

        void setKind(int plane, int x, int y, int kind) {
            cells[plane * MOST_CELLS + y * MOST_COLUMNS + x] = kind;
        }

        int kindAt(int plane, int x, int y) {
            int row = y + pulls[plane];
            return row < height ? cells[plane * MOST_CELLS + row * MOST_COLUMNS + x] : OPEN;
        }

        int standing(int plane) {
            int count = 0;
            for (int y = 0; y < height; y++) {
                for (int x = 0; x < width; x++) {
                    if (kindAt(plane, x, y) != OPEN) {
                        count++;
                    }
                }
            }
            return count;
        }

        /** Where a look that goes from one x (or y) to another crosses the plane. */
        int crossing(int from, int to, int plane) {
            return from + (int) quotient((to - from) * (plane + 1), planes);
        }

        int crossedKind(int hole, int plane, int x, int y) {
            return kindAt(plane, crossing(holeX[hole], x, plane), crossing(holeY[hole], y, plane));
        }

        int seenFrom(int hole, int x, int y) {
            int plane = 0;
            int kind = crossedKind(hole, plane, x, y);
            while (kind == OPEN && plane < planes - 1) {
                plane++;
                kind = crossedKind(hole, plane, x, y);
            }
            return PLANE_FACTOR * plane + Math.max(kind, 0);
        }
    }

    /** What is seen through the holes of a box, as it was when update was called last. */
    private static final class View {
        private static final int UNKNOWN = -1;

        final int[] seen = new int[MOST_HOLES * MOST_CELLS];
        final int[] counts = new int[MOST_HOLES * KINDS];
        final int[] kinds = new int[MOST_HOLES];
        final int[] depths = new int[MOST_HOLES];
        /** Kept, since ticks ask for the same price again and again. */
        private final int[] prices = new int[MOST_HOLES * KINDS];

        static int target(int hole, int x, int y) {
            return hole * MOST_CELLS + y * MOST_COLUMNS + x;
        }

        void update(Box box) {
            Arrays.fill(counts, 0);
            Arrays.fill(prices, UNKNOWN);
            for (int hole = 0; hole < box.holes; hole++) {
                look(box, hole);
                kinds[hole] = differentKinds(hole);
            }
        }

        private void look(Box box, int hole) {
            int planeSum = 0;
            for (int y = 0; y < box.height; y++) {
                for (int x = 0; x < box.width; x++) {
                    int what = box.seenFrom(hole, x, y);
                    seen[target(hole, x, y)] = what;
                    counts[hole * KINDS + what % PLANE_FACTOR]++;
                    planeSum += what / PLANE_FACTOR + 1;
                }
            }
            depths[hole] = (int) quotient(planeSum, box.width * box.height);
        }

        private int differentKinds(int hole) {
            int different = 0;
            for (int kind = 0; kind < KINDS; kind++) {
                if (counts[hole * KINDS + kind] > 0) {
                    different++;
                }
            }
            return different;
        }

        int countInAll(Box box, int kind) {
            int count = 0;
            for (int hole = 0; hole < box.holes; hole++) {
                count += counts[hole * KINDS + kind];
            }
            return count;
        }

        int targetsOf(Box box, int plane) {
            int count = 0;
            for (int hole = 0; hole < box.holes; hole++) {
                for (int y = 0; y < box.height; y++) {
                    for (int x = 0; x < box.width; x++) {
                        if (seen[target(hole, x, y)] / PLANE_FACTOR == plane) {
                            count++;
                        }
                    }
                }
            }
            return count;
        }

        int reason(Box box, int hole, int plane, int x, int y) {
            boolean crossed = false;
            for (int toY = 0; toY < box.height; toY++) {
                for (int toX = 0; toX < box.width; toX++) {
                    if (box.crossing(box.holeX[hole], toX, plane) == x
                            && box.crossing(box.holeY[hole], toY, plane) == y) {
                        crossed = true;
                        if (seen[target(hole, toX, toY)] / PLANE_FACTOR == plane) {
                            return 0;
                        }
                    }
                }
            }
            if (box.kindAt(plane, x, y) == OPEN) {
                return 1;
            }
            return crossed ? 3 : 2;
        }

        int priceFor(Box box, int wish, int hole) {
            int index = hole * KINDS + wish;
            if (prices[index] == UNKNOWN) {
                int value = box.price.value(counts[index], kinds[hole], depths[hole], hole);
                prices[index] = limited(value, 0, MOST_PRICE);
            }
            return prices[index];
        }
    }

    /** The viewers, their looks, and the time. */
    private static final class Crowd {
        static final int WAITS = 0;
        static final int LOOKS = 1;
        static final int LEFT = 2;
        static final int WENT = 3;

        static final int HEIGHT = 0;
        static final int WISH = 1;
        static final int COINS = 2;
        static final int STATUS = 3;
        static final int HOLE = 4;
        static final int TICKS = 5;
        static final int PAID = 6;
        static final int FACTS = 7;

        static final int FIRST_LENGTH = 3;

        int viewers = 0;
        int lookLength = FIRST_LENGTH;
        int time = 0;
        final int[] lookers = new int[MOST_HOLES];
        private final int[] facts = new int[MOST_VIEWERS * FACTS];

        void begin() {
            viewers = 0;
            lookLength = FIRST_LENGTH;
            time = 0;
            Arrays.fill(lookers, NOBODY);
        }

        void copyFrom(Crowd other) {
            viewers = other.viewers;
            lookLength = other.lookLength;
            time = other.time;
            System.arraycopy(other.lookers, 0, lookers, 0, lookers.length);
            System.arraycopy(other.facts, 0, facts, 0, facts.length);
        }

        boolean isFull() {
            return viewers >= MOST_VIEWERS;
        }

        void add(int height, int wish, int coins) {
            if (isFull()) {
                return;
            }
            int viewer = viewers;
            viewers++;
            set(viewer, HEIGHT, height);
            set(viewer, WISH, wish);
            set(viewer, COINS, coins);
            set(viewer, PAID, 0);
            endLook(viewer, WAITS);
        }

        int fact(int viewer, int what) {
            return facts[viewer * FACTS + what];
        }

        private void set(int viewer, int what, int number) {
            facts[viewer * FACTS + what] = number;
        }

        int count(int status) {
            int count = 0;
            for (int viewer = 0; viewer < viewers; viewer++) {
                if (fact(viewer, STATUS) == status) {
                    count++;
                }
            }
            return count;
        }

        boolean isBusy() {
            return count(WAITS) + count(LOOKS) > 0;
        }

        int allPaid() {
            int sum = 0;
            for (int viewer = 0; viewer < viewers; viewer++) {
                sum += fact(viewer, PAID);
            }
            return sum;
        }

        void tick(Box box, View view) {
            for (int viewer = 0; viewer < viewers; viewer++) {
                if (fact(viewer, STATUS) == LOOKS) {
                    lookOn(viewer, box, view);
                }
            }
            for (int viewer = 0; viewer < viewers; viewer++) {
                if (fact(viewer, STATUS) == WAITS) {
                    choose(viewer, box, view);
                }
            }
            time++;
        }

        private void lookOn(int viewer, Box box, View view) {
            int ticksLeft = fact(viewer, TICKS) - 1;
            set(viewer, TICKS, ticksLeft);
            if (ticksLeft > 0) {
                return;
            }
            int hole = fact(viewer, HOLE);
            int coins = fact(viewer, COINS);
            int paid = Math.min(coins, view.priceFor(box, fact(viewer, WISH), hole));
            set(viewer, COINS, coins - paid);
            set(viewer, PAID, paid);
            lookers[hole] = NOBODY;
            endLook(viewer, LEFT);
        }

        private void choose(int viewer, Box box, View view) {
            int wish = fact(viewer, WISH);
            boolean hopes = false;
            int best = -1;
            int most = -1;
            for (int hole = 0; hole < box.holes; hole++) {
                if (box.canUse(fact(viewer, HEIGHT), hole)
                        && view.priceFor(box, wish, hole) <= fact(viewer, COINS)) {
                    hopes = true;
                    int count = view.counts[hole * KINDS + wish];
                    if (lookers[hole] == NOBODY && count > most) {
                        most = count;
                        best = hole;
                    }
                }
            }
            if (!hopes) {
                endLook(viewer, WENT);
            } else if (best >= 0) {
                beginLook(viewer, best);
            }
        }

        private void beginLook(int viewer, int hole) {
            lookers[hole] = viewer;
            set(viewer, STATUS, LOOKS);
            set(viewer, HOLE, hole);
            set(viewer, TICKS, lookLength);
        }

        private void endLook(int viewer, int status) {
            set(viewer, STATUS, status);
            set(viewer, HOLE, -1);
            set(viewer, TICKS, 0);
        }
    }

    /** The expression of the price, its operands ahead of their operation. */
    private static final class Price {
        static final int NONE = 0;
        /** Codes below 0, since a code from 0 on is a number; an operation is its sign below 0. */
        static final int SHOWN = -1;
        static final int DIFFERENT = -2;
        static final int DEPTH = -3;
        static final int HOLE = -4;

        private static final int LIMIT = 1000000;
        /** Two operands may wait at each of the 5 depths, ahead of the one at hand. */
        private static final int MOST_WAITING = 16;

        private final int[] codes = new int[MOST_BYTES];
        private int size = 0;
        private final int[] waiting = new int[MOST_WAITING];

        void begin() {
            clear();
            add(1);
            add(SHOWN);
            addOperation('+');
        }

        void clear() {
            size = 0;
        }

        void add(int code) {
            if (size < codes.length) {
                codes[size] = code;
                size++;
            }
        }

        void addOperation(int sign) {
            if (sign != NONE) {
                add(-sign);
            }
        }

        void copyFrom(Price other) {
            size = other.size;
            System.arraycopy(other.codes, 0, codes, 0, size);
        }

        int value(int shownCount, int kindCount, int depth, int hole) {
            int top = 0;
            for (int i = 0; i < size; i++) {
                int code = codes[i];
                if (code < HOLE) {
                    if (top >= 2) {
                        top--;
                        waiting[top - 1] = combine(-code, waiting[top - 1], waiting[top]);
                    }
                } else if (top < MOST_WAITING) {
                    waiting[top] = operand(code, shownCount, kindCount, depth, hole);
                    top++;
                }
            }
            return waiting[0];
        }

        private static int operand(int code, int shownCount, int kindCount, int depth, int hole) {
            switch (code) {
                case SHOWN: return shownCount;
                case DIFFERENT: return kindCount;
                case DEPTH: return depth;
                case HOLE: return hole;
                default: return code;
            }
        }

        private static int combine(int sign, long left, long right) {
            switch (sign) {
                case '+': return limited(left + right, -LIMIT, LIMIT);
                case '-': return limited(left - right, -LIMIT, LIMIT);
                case '*': return limited(left * right, -LIMIT, LIMIT);
                default: return limited(quotient(left, right), -LIMIT, LIMIT);
            }
        }
    }

    /** The input buffer, and the reading of a setup text from it. */
    private static final class Setup {
        private static final int END = -1;
        private static final int MOST_FACTOR = 9999;
        private static final int MOST_NESTED = 4;
        /** Above every range; greater numbers are held at it, since they may have any length. */
        private static final int TOO_GREAT = 99999;

        final Show show = new Show();
        int filled = 0;
        int error = 0;
        int errorAt = -1;
        private final byte[] bytes = new byte[MOST_BYTES];
        private int end = 0;
        private int at = 0;
        private int number = 0;
        private int planesTold = 0;
        private boolean reachTold = false;
        private boolean lengthTold = false;
        private boolean priceTold = false;

        boolean hasRoomFor(int count) {
            return filled + count <= MOST_BYTES;
        }

        void put(int word) {
            for (int shift = 24; shift >= 0 && filled < MOST_BYTES; shift -= 8) {
                bytes[filled] = (byte) (word >>> shift);
                filled++;
            }
        }

        /** Reads the text into show and empties the buffer; tells whether there was no error. */
        boolean read(int length) {
            begin(length);
            boolean right = readBox();
            for (int i = 0; i < end && right && peek() != END; i++) {
                right = readStatement() && readSign(';');
            }
            if (right && show.box.holes == 0) {
                show.box.addHole(0, 0);
            }
            return right;
        }

        private void begin(int length) {
            end = Math.min(length, filled);
            filled = 0;
            at = 0;
            error = 0;
            errorAt = -1;
            planesTold = 0;
            reachTold = false;
            lengthTold = false;
            priceTold = false;
        }

        /** Answers false, so that a reading method can end with it. */
        private boolean fail(int code, int offset) {
            error = code;
            errorAt = offset;
            return false;
        }

        private boolean readBox() {
            peek();
            if (!takesWord("box")) {
                return fail(SYNTAX_ERROR, at);
            }
            if (!readNumber(1, MOST_COLUMNS)) {
                return false;
            }
            int width = number;
            if (!readNumber(1, MOST_ROWS)) {
                return false;
            }
            int height = number;
            if (!readNumber(1, MOST_PLANES)) {
                return false;
            }
            show.begin(width, height, number);
            return readSign(';');
        }

        private boolean readStatement() {
            int start = at;
            if (takesWord("plane")) {
                return readPlane(start);
            }
            if (takesWord("hole")) {
                return readHole(start);
            }
            if (takesWord("reach")) {
                return readReach(start);
            }
            if (takesWord("length")) {
                return readLength(start);
            }
            if (takesWord("viewer")) {
                return readViewer(start);
            }
            if (takesWord("price")) {
                return readPrice(start);
            }
            return fail(SYNTAX_ERROR, start);
        }

        private boolean readPlane(int start) {
            if (planesTold >= show.box.planes) {
                return fail(TOO_MANY, start);
            }
            for (int y = 0; y < show.box.height; y++) {
                if (!readLine(planesTold, y)) {
                    return false;
                }
            }
            planesTold++;
            return true;
        }

        private boolean readLine(int plane, int y) {
            peek();
            int start = at;
            while (at < end && isOfLine(bytes[at])) {
                at++;
            }
            if (at == start) {
                return fail(SYNTAX_ERROR, start);
            }
            if (at - start != show.box.width) {
                return fail(WRONG_LINE, start);
            }
            for (int x = 0; x < show.box.width; x++) {
                boolean open = bytes[start + x] == '.';
                if (open && show.box.isBack(plane)) {
                    return fail(WRONG_LINE, start + x);
                }
                show.box.setKind(plane, x, y, open ? OPEN : bytes[start + x] - 'a');
            }
            return true;
        }

        private boolean readHole(int start) {
            if (show.box.holes >= MOST_HOLES) {
                return fail(TOO_MANY, start);
            }
            if (!readNumber(0, show.box.width - 1)) {
                return false;
            }
            int x = number;
            if (!readNumber(0, show.box.height - 1)) {
                return false;
            }
            show.box.addHole(x, number);
            return true;
        }

        private boolean readReach(int start) {
            if (reachTold) {
                return fail(SYNTAX_ERROR, start);
            }
            if (!readNumber(0, MOST_REACH)) {
                return false;
            }
            reachTold = true;
            show.box.reach = number;
            return true;
        }

        private boolean readLength(int start) {
            if (lengthTold) {
                return fail(SYNTAX_ERROR, start);
            }
            if (!readNumber(1, MOST_LENGTH)) {
                return false;
            }
            lengthTold = true;
            show.crowd.lookLength = number;
            return true;
        }

        private boolean readViewer(int start) {
            if (show.crowd.isFull()) {
                return fail(TOO_MANY, start);
            }
            if (!readNumber(0, MOST_HEIGHT)) {
                return false;
            }
            int height = number;
            if (!readKind()) {
                return false;
            }
            int wish = number;
            if (!readNumber(0, MOST_COINS)) {
                return false;
            }
            show.crowd.add(height, wish, number);
            return true;
        }

        private boolean readPrice(int start) {
            if (priceTold) {
                return fail(SYNTAX_ERROR, start);
            }
            priceTold = true;
            show.box.price.clear();
            return readSum(0);
        }

        /** An operation is added behind both its operands, those of a term ahead of the sum's. */
        private boolean readSum(int depth) {
            int ofSum = Price.NONE;
            int ofTerm = Price.NONE;
            for (int i = 0; i < end; i++) {
                if (!readFactor(depth)) {
                    return false;
                }
                show.box.price.addOperation(ofTerm);
                ofTerm = takesEither('*', '/');
                if (ofTerm == Price.NONE) {
                    show.box.price.addOperation(ofSum);
                    ofSum = takesEither('+', '-');
                    if (ofSum == Price.NONE) {
                        return true;
                    }
                }
            }
            return true;
        }

        private int takesEither(int sign, int otherSign) {
            int found = peek();
            if (found != sign && found != otherSign) {
                return Price.NONE;
            }
            at++;
            return found;
        }

        private boolean readFactor(int depth) {
            int first = peek();
            if (first == '(') {
                if (depth >= MOST_NESTED) {
                    return fail(TOO_DEEP, at);
                }
                at++;
                return readSum(depth + 1) && readSign(')');
            }
            int code = Price.NONE;
            if (takesWord("shown")) {
                code = Price.SHOWN;
            } else if (takesWord("kinds")) {
                code = Price.DIFFERENT;
            } else if (takesWord("depth")) {
                code = Price.DEPTH;
            } else if (takesWord("hole")) {
                code = Price.HOLE;
            } else if (readNumber(0, MOST_FACTOR)) {
                code = number;
            } else {
                return false;
            }
            show.box.price.add(code);
            return true;
        }

        private boolean readSign(int sign) {
            if (peek() != sign) {
                return fail(SYNTAX_ERROR, at);
            }
            at++;
            return true;
        }

        private boolean readNumber(int low, int high) {
            if (!isDigit(peek())) {
                return fail(SYNTAX_ERROR, at);
            }
            int start = at;
            number = 0;
            while (at < end && isDigit(bytes[at])) {
                number = Math.min(10 * number + bytes[at] - '0', TOO_GREAT);
                at++;
            }
            return number >= low && number <= high || fail(OUT_OF_RANGE, start);
        }

        private boolean readKind() {
            int letter = peek();
            if (!isLetter(letter)) {
                return fail(SYNTAX_ERROR, at);
            }
            int start = at;
            at++;
            number = letter - 'a';
            return !(at < end && isLetter(bytes[at])) || fail(OUT_OF_RANGE, start);
        }

        /** The first byte of the next token, to which it goes on; END behind the last one. */
        private int peek() {
            while (at < end && bytes[at] == ' ') {
                at++;
            }
            return at < end ? bytes[at] & 255 : END;
        }

        /** Goes on behind the word if just this one begins here, and stays otherwise. */
        private boolean takesWord(String word) {
            int behind = at + word.length();
            if (behind > end) {
                return false;
            }
            for (int i = 0; i < word.length(); i++) {
                if (bytes[at + i] != word.charAt(i)) {
                    return false;
                }
            }
            if (behind < end && isLetter(bytes[behind])) {
                return false;
            }
            at = behind;
            return true;
        }

        private static boolean isDigit(int sign) {
            return sign >= '0' && sign <= '9';
        }

        private static boolean isLetter(int sign) {
            return sign >= 'a' && sign <= 'z';
        }

        private static boolean isOfLine(int sign) {
            return sign == '.' || isLetter(sign);
        }
    }
}
