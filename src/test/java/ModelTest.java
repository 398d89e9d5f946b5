import java.util.function.LongSupplier;

/** All promises: long runs of the same calls on a PeepBox and on the PlainModel. */
final class ModelTest {
    private static final Check CHECK = new Check("ModelTest");
    private static final int RUNS = 400;
    private static final int CALLS = 150;

    private long seed;
    private final PeepBox box = new PeepBox();
    private final PlainModel model = new PlainModel();

    private ModelTest(long seed) {
        this.seed = seed * 1000003 + 17;
    }

    public static void main(String[] args) {
        int runs = args.length > 0 ? Integer.parseInt(args[0]) : RUNS;
        for (int run = 0; run < runs; run++) {
            new ModelTest(run).run(run);
        }
        for (int run = 0; run < 20 * runs; run++) {
            new ModelTest(run + 1000000).texts(run);
        }
        for (int run = 0; run < runs / 20; run++) {
            new ModelTest(run + 2000000).beginnings(run);
        }
        CHECK.finish();
    }

    private int any(int bound) {
        seed = seed * 6364136223846793005L + 1442695040888963407L;
        return (int) Long.remainderUnsigned(seed >>> 17, bound);
    }

    private int from(int low, int high) {
        return low + any(high - low + 1);
    }

    /** Mostly 0 to high - 1, now and then beside it. */
    private int near(int high) {
        int way = any(40);
        return way == 0 ? -1 : way == 1 ? high : way == 2 ? Integer.MAX_VALUE : way == 3 ? Integer.MIN_VALUE
                : any(Math.max(high, 1));
    }

    private void run(int run) {
        load(run);
        for (int call = 0; call < CALLS; call++) {
            if (any(40) == 0) {
                load(run);
            } else if (any(2) == 0) {
                change(run);
            } else {
                ask(run);
            }
            same(run, "checksum()", box::checksum, model::checksum);
        }
        while (model.undo() >= 0) {
            box.undo();
            same(run, "checksum() after undo", box::checksum, model::checksum);
        }
        same(run, "undo()", box::undo, model::undo);
    }

    /** Texts of which most have an error somewhere. */
    private void texts(int run) {
        for (int i = 0; i < 3; i++) {
            StringBuilder text = new StringBuilder(setup());
            String signs = " ;.()+-*/0129abxyz\u0000\u00ffAZ";
            for (int spoiled = any(3); spoiled > 0; spoiled--) {
                int offset = any(text.length() + 1);
                char sign = signs.charAt(any(signs.length()));
                switch (any(4)) {
                    case 0: text.insert(offset, sign); break;
                    case 1: text.setLength(any(20) == 0 ? offset : text.length()); break;
                    case 2: text.replace(offset, Math.min(offset + 1, text.length()), String.valueOf(sign)); break;
                    default: text.replace(offset, Math.min(offset + 1 + any(8), text.length()), ""); break;
                }
            }
            load(run, text.toString());
        }
    }

    /** All beginnings of one text, the rest of it standing behind them in the buffer. */
    private void beginnings(int run) {
        String text = setup();
        text = text.substring(0, Math.min(text.length(), 800));
        for (int length = 0; length <= text.length(); length++) {
            load(run, text, length);
        }
    }

    private void load(int run) {
        load(run, setup());
    }

    private void load(int run, String text) {
        load(run, text, Math.min(text.length(), 800));
    }

    private void load(int run, String text, int length) {
        for (int i = 0; i < text.length(); i += 20) {
            int[] w = new int[5];
            for (int b = 0; b < 20; b++) {
                w[b / 4] = w[b / 4] << 8 | (i + b < text.length() ? text.charAt(i + b) : ' ');
            }
            same(run, "append", () -> box.append(w[0], w[1], w[2], w[3], w[4]), () -> model.append(w));
        }
        same(run, "load of " + length + " bytes of " + text, () -> box.load(length), () -> model.load(length));
        same(run, "errorOffset() of " + text, box::errorOffset, model::errorOffset);
        same(run, "checksum() of " + text, box::checksum, model::checksum);
    }

    private void change(int run) {
        int a = near(10);
        int b = near(26);
        int c = any(3) == 0 ? near(1000) : near(40);
        int plane = near(model.d.n);
        int rows = near(model.d.height + 1);
        int ticks = any(3) == 0 ? near(51) : from(1, 5);
        int length = near(21);
        switch (any(6)) {
            case 0: same(run, "pass(" + ticks + ")", () -> box.pass(ticks), () -> model.pass(ticks)); break;
            case 1: same(run, "pull(" + plane + ", " + rows + ")",
                    () -> box.pull(plane, rows), () -> model.pull(plane, rows)); break;
            case 2: same(run, "come(" + a + ", " + b + ", " + c + ")",
                    () -> box.come(a, b, c), () -> model.come(a, b, c)); break;
            case 3: same(run, "length(" + length + ")", () -> box.length(length), () -> model.length(length)); break;
            case 4: same(run, "pass(" + ticks + ")", () -> box.pass(ticks), () -> model.pass(ticks)); break;
            default:
                for (int i = any(4); i >= 0; i--) {
                    same(run, "undo()", box::undo, model::undo);
                }
        }
    }

    private void ask(int run) {
        int plane = near(model.d.n);
        int hole = near(model.d.holes.size());
        int x = near(model.d.width);
        int y = near(model.d.height);
        int kind = near(any(2) == 0 ? 26 : 5);
        int viewer = near(model.d.viewers.size());
        int what = near(7);
        int ticks = near(101);
        same(run, "state", () -> box.state(2 * what), () -> model.state(2 * what));
        same(run, "stands", () -> box.stands(plane, x, y), () -> model.stands(plane, x, y));
        same(run, "plane", () -> box.plane(plane, what), () -> model.plane(plane, what));
        same(run, "hole", () -> box.hole(hole, what), () -> model.hole(hole, what));
        same(run, "sees", () -> box.sees(hole, x, y), () -> model.sees(hole, x, y));
        same(run, "shown", () -> box.shown(hole, kind), () -> model.shown(hole, kind));
        same(run, "why", () -> box.why(hole, plane, x, y), () -> model.why(hole, plane, x, y));
        same(run, "viewer", () -> box.viewer(viewer, what), () -> model.viewer(viewer, what));
        same(run, "price", () -> box.price(viewer, hole), () -> model.price(viewer, hole));
        same(run, "bestPull", () -> box.bestPull(plane, kind), () -> model.bestPull(plane, kind));
        same(run, "foretold", () -> box.foretold(ticks, what), () -> model.foretold(ticks, what));
        same(run, "emptyIn", box::emptyIn, model::emptyIn);
        CHECK.sameFloat("run " + run + ": meanPaid", box.meanPaid(), model.meanPaid());
    }

    private static void same(int run, String call, LongSupplier got, LongSupplier due) {
        String answer = answer(got);
        String dueAnswer = answer(due);
        if (!answer.equals(dueAnswer)) {
            CHECK.tell("run " + run + ": " + call + " answered " + answer + ", due is " + dueAnswer);
        }
    }

    private static String answer(LongSupplier call) {
        try {
            return String.valueOf(call.getAsLong());
        } catch (IndexOutOfBoundsException | IllegalArgumentException | IllegalStateException e) {
            return e.getClass().getName();
        }
    }

    /** A setup text that is mostly right. */
    private String setup() {
        int width = any(6) == 0 ? from(1, 12) : from(1, 5);
        int height = any(6) == 0 ? from(1, 8) : from(1, 4);
        int planes = from(1, 5);
        int kinds = from(1, 4);
        StringBuilder text = new StringBuilder("box " + width + " " + height + " " + planes + ";");
        for (int p = any(planes + 1) == 0 ? any(planes) : planes, i = 0; i < p; i++) {
            text.append("plane");
            int open = any(4);
            for (int y = 0; y < height; y++) {
                text.append(' ');
                for (int x = 0; x < width; x++) {
                    text.append(i < planes - 1 && any(4) <= open ? '.' : (char) ('a' + any(kinds)));
                }
            }
            text.append(';');
        }
        for (int holes = any(5); holes > 0; holes--) {
            text.append("hole " + any(width) + " " + any(height) + ";");
        }
        for (int viewers = any(10) == 0 ? from(15, 21) : any(8); viewers > 0; viewers--) {
            text.append("viewer " + any(10) + (char) ('a' + any(kinds)) + any(any(2) == 0 ? 1000 : 30) + ";");
        }
        if (any(2) == 0) {
            text.append("reach ").append(any(10)).append(any(20) == 0 ? ";reach 1;" : ";");
        }
        if (any(2) == 0) {
            text.append("length").append(any(4) == 0 ? from(1, 20) : from(1, 4)).append(" ;");
        }
        if (any(2) == 0) {
            text.append("price ").append(sum(any(5))).append(any(20) == 0 ? ";price 1;" : ";");
        }
        return text.toString();
    }

    private String sum(int depth) {
        StringBuilder sum = new StringBuilder(factor(depth));
        for (int i = any(4); i > 0; i--) {
            sum.append("+-*/".charAt(any(4))).append(any(4) == 0 ? " " : "").append(factor(depth));
        }
        return sum.toString();
    }

    private String factor(int depth) {
        switch (any(8)) {
            case 0: return "shown";
            case 1: return "kinds";
            case 2: return "depth";
            case 3: return "hole";
            case 4: return String.valueOf(any(10000));
            case 5: return String.valueOf(any(10));
            default: return depth > 0 ? "(" + sum(depth - 1) + ")" : "shown";
        }
    }
}
