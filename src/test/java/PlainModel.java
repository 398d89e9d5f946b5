import java.util.ArrayDeque;
import java.util.ArrayList;
import java.util.Deque;
import java.util.HashSet;
import java.util.List;
import java.util.Set;

/** The document read a second time, as plainly as may be: nothing is kept that can be asked for. */
final class PlainModel {
    /** What the sums of a price are made of. */
    interface Sum {
        long of(int shown, int kinds, int depth, int hole);
    }

    static final class Viewer {
        int height;
        int wish;
        int coins;
        String state = "waits";
        int hole = -1;
        int ticks = 0;
        int paid = 0;

        Viewer copy() {
            Viewer v = new Viewer();
            v.height = height;
            v.wish = wish;
            v.coins = coins;
            v.state = state;
            v.hole = hole;
            v.ticks = ticks;
            v.paid = paid;
            return v;
        }
    }

    static final class Data {
        int width;
        int height;
        int n;
        int reach = 9;
        int length = 3;
        int time = 0;
        String[][] lines;
        int[] pulled;
        List<int[]> holes = new ArrayList<>();
        List<Viewer> viewers = new ArrayList<>();
        Sum price = (shown, kinds, depth, hole) -> 1 + shown;

        Data copy() {
            Data d = new Data();
            d.width = width;
            d.height = height;
            d.n = n;
            d.reach = reach;
            d.length = length;
            d.time = time;
            d.lines = lines;
            d.pulled = pulled.clone();
            d.holes = holes;
            for (Viewer v : viewers) {
                d.viewers.add(v.copy());
            }
            d.price = price;
            return d;
        }
    }

    static final class TextError extends RuntimeException {
        private static final long serialVersionUID = 1;
        final int code;
        final int offset;

        TextError(int code, int offset) {
            this.code = code;
            this.offset = offset;
        }
    }

    private StringBuilder input = new StringBuilder();
    private int offset = -1;
    Data d = new Text("box 4 3 2;").data();
    private Deque<Data> before = new ArrayDeque<>();

    // ---- what is asked

    int append(int... words) {
        if (input.length() + 20 > 800) {
            return -1;
        }
        for (int w : words) {
            for (int i = 3; i >= 0; i--) {
                input.append((char) (w >>> 8 * i & 0xff));
            }
        }
        return input.length();
    }

    int load(int length) {
        illegalUnless(length >= 0 && length <= input.length());
        String text = input.substring(0, length);
        input = new StringBuilder();
        Data read;
        try {
            read = new Text(text).data();
        } catch (TextError e) {
            offset = e.offset;
            return e.code;
        }
        offset = -1;
        change();
        d = read;
        return d.viewers.size();
    }

    int errorOffset() {
        return offset;
    }

    int state(int what) {
        illegalUnless(what >= 0 && what <= 13);
        int paid = 0;
        for (Viewer v : d.viewers) {
            paid += v.paid;
        }
        int free = 0;
        for (int h = 0; h < d.holes.size(); h++) {
            free += looker(d, h) < 0 ? 1 : 0;
        }
        return new int[] {d.width, d.height, d.n, d.holes.size(), d.reach, d.length, d.time, d.viewers.size(),
            many(d, "waits"), many(d, "looks"), many(d, "left"), many(d, "went"), paid, free}[what];
    }

    int stands(int plane, int x, int y) {
        outsideUnless(isPlane(plane) && isCell(x, y));
        return at(d, plane, x, y);
    }

    int plane(int plane, int what) {
        outsideUnless(isPlane(plane));
        illegalUnless(what >= 0 && what <= 2);
        int standing = 0;
        int seeing = 0;
        for (int y = 0; y < d.height; y++) {
            for (int x = 0; x < d.width; x++) {
                standing += at(d, plane, x, y) >= 0 ? 1 : 0;
                for (int h = 0; h < d.holes.size(); h++) {
                    seeing += look(d, h, x, y)[0] == plane ? 1 : 0;
                }
            }
        }
        return new int[] {d.pulled[plane], standing, seeing}[what];
    }

    int hole(int hole, int what) {
        outsideUnless(isHole(hole));
        illegalUnless(what >= 0 && what <= 4);
        switch (what) {
            case 0: return d.holes.get(hole)[0];
            case 1: return d.holes.get(hole)[1];
            case 2: return looker(d, hole);
            case 3: return kinds(d, hole);
            default: return depth(d, hole);
        }
    }

    int sees(int hole, int x, int y) {
        outsideUnless(isHole(hole) && isCell(x, y));
        int[] seen = look(d, hole, x, y);
        return 100 * seen[0] + seen[3];
    }

    int shown(int hole, int kind) {
        outsideUnless(isHole(hole));
        illegalUnless(kind >= 0 && kind <= 25);
        return shown(d, hole, kind);
    }

    int why(int hole, int plane, int x, int y) {
        outsideUnless(isHole(hole) && isPlane(plane) && isCell(x, y));
        int crossing = 0;
        for (int ty = 0; ty < d.height; ty++) {
            for (int tx = 0; tx < d.width; tx++) {
                int[] seen = look(d, hole, tx, ty);
                if (seen[0] == plane && seen[1] == x && seen[2] == y) {
                    return 0;
                }
                int hx = d.holes.get(hole)[0];
                int hy = d.holes.get(hole)[1];
                if (hx + (tx - hx) * (plane + 1) / d.n == x && hy + (ty - hy) * (plane + 1) / d.n == y) {
                    crossing++;
                }
            }
        }
        return at(d, plane, x, y) < 0 ? 1 : crossing == 0 ? 2 : 3;
    }

    int viewer(int viewer, int what) {
        outsideUnless(isViewer(viewer));
        illegalUnless(what >= 0 && what <= 6);
        Viewer v = d.viewers.get(viewer);
        return new int[] {v.height, v.wish, v.coins, List.of("waits", "looks", "left", "went").indexOf(v.state),
            v.hole, v.ticks, v.paid}[what];
    }

    int price(int viewer, int hole) {
        outsideUnless(isViewer(viewer) && isHole(hole));
        Viewer v = d.viewers.get(viewer);
        return usable(d, v, hole) ? price(d, v, hole) : -1;
    }

    int bestPull(int plane, int kind) {
        outsideUnless(isPlane(plane));
        illegalUnless(kind >= 0 && kind <= 25);
        int best = 0;
        int most = -1;
        for (int rows = 0; rows <= (plane == d.n - 1 ? 0 : d.height); rows++) {
            Data pulled = d.copy();
            pulled.pulled[plane] = rows;
            int all = 0;
            for (int h = 0; h < d.holes.size(); h++) {
                all += shown(pulled, h, kind);
            }
            if (all > most) {
                best = rows;
                most = all;
            }
        }
        return best;
    }

    int foretold(int ticks, int what) {
        illegalUnless(ticks >= 1 && ticks <= 100 && what >= 0 && what <= 3);
        Data then = d.copy();
        for (int i = 0; i < ticks; i++) {
            tick(then);
        }
        int paid = 0;
        for (Viewer v : then.viewers) {
            paid += v.paid;
        }
        return new int[] {paid, many(then, "waits"), many(then, "looks"), many(then, "went")}[what];
    }

    int emptyIn() {
        Data then = d.copy();
        while (many(then, "waits") > 0 || many(then, "looks") > 0) {
            tick(then);
        }
        return then.time - d.time;
    }

    float meanPaid() {
        return many(d, "left") == 0 ? 0 : (float) state(12) / (float) many(d, "left");
    }

    int pass(int ticks) {
        illegalUnless(ticks >= 1 && ticks <= 50);
        change();
        int paid = state(12);
        for (int i = 0; i < ticks; i++) {
            tick(d);
        }
        return state(12) - paid;
    }

    int pull(int plane, int rows) {
        outsideUnless(isPlane(plane));
        illegalUnless(rows >= 0 && rows <= d.height);
        if (plane == d.n - 1) {
            throw new IllegalStateException();
        }
        change();
        int was = d.pulled[plane];
        d.pulled[plane] = rows;
        return was;
    }

    int come(int height, int wish, int coins) {
        illegalUnless(height >= 0 && height <= 9 && wish >= 0 && wish <= 25 && coins >= 0 && coins <= 999);
        if (d.viewers.size() == 20) {
            throw new IllegalStateException();
        }
        change();
        comes(d, height, wish, coins);
        return d.viewers.size() - 1;
    }

    int length(int ticks) {
        illegalUnless(ticks >= 1 && ticks <= 20);
        change();
        int was = d.length;
        d.length = ticks;
        return was;
    }

    int undo() {
        if (before.isEmpty()) {
            return -1;
        }
        d = before.pop();
        return before.size();
    }

    long checksum() {
        long c = 0;
        for (int i = 0; i <= 13; i++) {
            c = 31 * c + state(i);
        }
        for (int p = 0; p < d.n; p++) {
            for (int i = 0; i <= 2; i++) {
                c = 31 * c + plane(p, i);
            }
        }
        for (int h = 0; h < d.holes.size(); h++) {
            for (int i = 0; i <= 4; i++) {
                c = 31 * c + hole(h, i);
            }
        }
        for (int v = 0; v < d.viewers.size(); v++) {
            for (int i = 0; i <= 6; i++) {
                c = 31 * c + viewer(v, i);
            }
        }
        return c;
    }

    // ---- the terms

    private void change() {
        before.push(d.copy());
        if (before.size() > 8) {
            before.removeLast();
        }
    }

    private static void comes(Data d, int height, int wish, int coins) {
        Viewer v = new Viewer();
        v.height = height;
        v.wish = wish;
        v.coins = coins;
        d.viewers.add(v);
    }

    private static int at(Data d, int plane, int x, int y) {
        int row = y + d.pulled[plane];
        if (row >= d.height) {
            return -1;
        }
        char c = d.lines[plane][row].charAt(x);
        return c == '.' ? -1 : c - 'a';
    }

    /** The plane, x and y of the cell that is seen, and its kind. */
    private static int[] look(Data d, int hole, int tx, int ty) {
        int hx = d.holes.get(hole)[0];
        int hy = d.holes.get(hole)[1];
        for (int p = 0; p < d.n; p++) {
            int x = hx + (tx - hx) * (p + 1) / d.n;
            int y = hy + (ty - hy) * (p + 1) / d.n;
            if (at(d, p, x, y) >= 0) {
                return new int[] {p, x, y, at(d, p, x, y)};
            }
        }
        throw new AssertionError("the back is open");
    }

    private static int shown(Data d, int hole, int kind) {
        int count = 0;
        for (int i = 0; i < d.width * d.height; i++) {
            count += look(d, hole, i % d.width, i / d.width)[3] == kind ? 1 : 0;
        }
        return count;
    }

    private static int kinds(Data d, int hole) {
        Set<Integer> kinds = new HashSet<>();
        for (int i = 0; i < d.width * d.height; i++) {
            kinds.add(look(d, hole, i % d.width, i / d.width)[3]);
        }
        return kinds.size();
    }

    private static int depth(Data d, int hole) {
        int sum = 0;
        for (int i = 0; i < d.width * d.height; i++) {
            sum += look(d, hole, i % d.width, i / d.width)[0] + 1;
        }
        return sum / (d.width * d.height);
    }

    private static boolean usable(Data d, Viewer v, int hole) {
        return Math.abs(v.height - (d.height - 1 - d.holes.get(hole)[1])) <= d.reach;
    }

    private static int price(Data d, Viewer v, int hole) {
        long price = d.price.of(shown(d, hole, v.wish), kinds(d, hole), depth(d, hole), hole);
        return price < 0 ? 0 : price > 999 ? 999 : (int) price;
    }

    private static int looker(Data d, int hole) {
        for (int i = 0; i < d.viewers.size(); i++) {
            if (d.viewers.get(i).state.equals("looks") && d.viewers.get(i).hole == hole) {
                return i;
            }
        }
        return -1;
    }

    private static int many(Data d, String state) {
        int count = 0;
        for (Viewer v : d.viewers) {
            count += v.state.equals(state) ? 1 : 0;
        }
        return count;
    }

    private static void tick(Data d) {
        for (Viewer v : d.viewers) {
            if (v.state.equals("looks") && --v.ticks == 0) {
                v.paid = Math.min(v.coins, price(d, v, v.hole));
                v.coins -= v.paid;
                v.state = "left";
                v.hole = -1;
            }
        }
        for (Viewer v : d.viewers) {
            if (!v.state.equals("waits")) {
                continue;
            }
            List<Integer> fit = new ArrayList<>();
            for (int h = 0; h < d.holes.size(); h++) {
                if (usable(d, v, h) && price(d, v, h) <= v.coins) {
                    fit.add(h);
                }
            }
            if (fit.isEmpty()) {
                v.state = "went";
                continue;
            }
            fit.removeIf(h -> looker(d, h) >= 0);
            if (!fit.isEmpty()) {
                fit.sort((a, b) -> shown(d, a, v.wish) != shown(d, b, v.wish)
                        ? shown(d, b, v.wish) - shown(d, a, v.wish) : a - b);
                v.state = "looks";
                v.hole = fit.get(0);
                v.ticks = d.length;
            }
        }
        d.time++;
    }

    private boolean isPlane(int plane) {
        return plane >= 0 && plane < d.n;
    }

    private boolean isHole(int hole) {
        return hole >= 0 && hole < d.holes.size();
    }

    private boolean isViewer(int viewer) {
        return viewer >= 0 && viewer < d.viewers.size();
    }

    private boolean isCell(int x, int y) {
        return x >= 0 && x < d.width && y >= 0 && y < d.height;
    }

    private static void outsideUnless(boolean right) {
        if (!right) {
            throw new IndexOutOfBoundsException();
        }
    }

    private static void illegalUnless(boolean right) {
        if (!right) {
            throw new IllegalArgumentException();
        }
    }

    /** A setup text, read by its grammar. */
    static final class Text {
        private final String text;
        private int at = 0;
        private int start = 0;
        private Data d = new Data();

        Text(String text) {
            this.text = text;
        }

        Data data() {
            if (!run("[a-z]").equals("box")) {
                throw new TextError(PeepBox.SYNTAX_ERROR, start);
            }
            d.width = number(1, 12);
            d.height = number(1, 8);
            d.n = number(1, 5);
            sign(";");
            d.lines = new String[d.n][d.height];
            d.pulled = new int[d.n];
            for (int p = 0; p < d.n; p++) {
                for (int y = 0; y < d.height; y++) {
                    d.lines[p][y] = (p == d.n - 1 ? "a" : ".").repeat(d.width);
                }
            }
            List<String> told = new ArrayList<>();
            while (!next().isEmpty()) {
                String word = run("[a-z]");
                statement(word, start, told);
                told.add(word);
                sign(";");
            }
            if (d.holes.isEmpty()) {
                d.holes.add(new int[] {0, 0});
            }
            return d;
        }

        private void statement(String word, int from, List<String> told) {
            int times = 0;
            for (String other : told) {
                times += other.equals(word) ? 1 : 0;
            }
            boolean once = word.equals("reach") || word.equals("length") || word.equals("price");
            if (once && times > 0) {
                throw new TextError(PeepBox.SYNTAX_ERROR, from);
            }
            int most = word.equals("plane") ? d.n : word.equals("hole") ? 4 : word.equals("viewer") ? 20 : 1;
            if (times >= most) {
                throw new TextError(PeepBox.TOO_MANY, from);
            }
            if (word.equals("plane")) {
                for (int y = 0; y < d.height; y++) {
                    d.lines[times][y] = line(times == d.n - 1);
                }
            } else if (word.equals("hole")) {
                int x = number(0, d.width - 1);
                d.holes.add(new int[] {x, number(0, d.height - 1)});
            } else if (word.equals("reach")) {
                d.reach = number(0, 9);
            } else if (word.equals("length")) {
                d.length = number(1, 20);
            } else if (word.equals("viewer")) {
                int height = number(0, 9);
                String kind = run("[a-z]");
                if (kind.length() != 1) {
                    throw new TextError(kind.isEmpty() ? PeepBox.SYNTAX_ERROR : PeepBox.OUT_OF_RANGE, start);
                }
                comes(d, height, kind.charAt(0) - 'a', number(0, 999));
            } else if (word.equals("price")) {
                d.price = sum(0);
            } else {
                throw new TextError(PeepBox.SYNTAX_ERROR, from);
            }
        }

        private String line(boolean back) {
            String line = run("[a-z.]");
            if (line.isEmpty()) {
                throw new TextError(PeepBox.SYNTAX_ERROR, start);
            }
            if (line.length() != d.width) {
                throw new TextError(PeepBox.WRONG_LINE, start);
            }
            if (back && line.contains(".")) {
                throw new TextError(PeepBox.WRONG_LINE, start + line.indexOf("."));
            }
            return line;
        }

        private Sum sum(int depth) {
            Sum sum = term(depth);
            while (next().equals("+") || next().equals("-")) {
                String sign = next();
                at++;
                Sum left = sum;
                Sum right = term(depth);
                sum = (s, k, dep, h) -> sign.equals("+")
                        ? limit(left.of(s, k, dep, h) + right.of(s, k, dep, h))
                        : limit(left.of(s, k, dep, h) - right.of(s, k, dep, h));
            }
            return sum;
        }

        private Sum term(int depth) {
            Sum term = factor(depth);
            while (next().equals("*") || next().equals("/")) {
                String sign = next();
                at++;
                Sum left = term;
                Sum right = factor(depth);
                term = (s, k, dep, h) -> {
                    long r = right.of(s, k, dep, h);
                    long l = left.of(s, k, dep, h);
                    return limit(sign.equals("*") ? l * r : r == 0 ? 0 : l / r);
                };
            }
            return term;
        }

        private Sum factor(int depth) {
            if (next().equals("(")) {
                if (depth == 4) {
                    throw new TextError(PeepBox.TOO_DEEP, at);
                }
                at++;
                Sum inner = sum(depth + 1);
                sign(")");
                return inner;
            }
            if (next().matches("[0-9]")) {
                int number = number(0, 9999);
                return (s, k, dep, h) -> number;
            }
            switch (run("[a-z]")) {
                case "shown": return (s, k, dep, h) -> s;
                case "kinds": return (s, k, dep, h) -> k;
                case "depth": return (s, k, dep, h) -> dep;
                case "hole": return (s, k, dep, h) -> h;
                default: throw new TextError(PeepBox.SYNTAX_ERROR, start);
            }
        }

        private static long limit(long n) {
            return Math.max(-1000000, Math.min(1000000, n));
        }

        /** The byte that comes next behind spaces; nothing at the end. */
        private String next() {
            while (at < text.length() && text.charAt(at) == ' ') {
                at++;
            }
            return at < text.length() ? text.substring(at, at + 1) : "";
        }

        private String run(String set) {
            next();
            start = at;
            while (at < text.length() && text.substring(at, at + 1).matches(set)) {
                at++;
            }
            return text.substring(start, at);
        }

        private int number(int low, int high) {
            String digits = run("[0-9]");
            if (digits.isEmpty()) {
                throw new TextError(PeepBox.SYNTAX_ERROR, start);
            }
            String bare = digits.replaceFirst("^0+", "");
            int n = bare.length() > 5 ? Integer.MAX_VALUE : bare.isEmpty() ? 0 : Integer.parseInt(bare);
            if (n < low || n > high) {
                throw new TextError(PeepBox.OUT_OF_RANGE, start);
            }
            return n;
        }

        private void sign(String due) {
            if (!next().equals(due)) {
                throw new TextError(PeepBox.SYNTAX_ERROR, at);
            }
            at++;
        }
    }
}
