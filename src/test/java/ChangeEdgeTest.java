import java.math.BigInteger;
import java.util.function.LongSupplier;

/**
 * "Changes" and the promises 18 to 23: each sentence that names a boundary case has a test of its own here, with the
 * sentence above it.
 */
final class ChangeEdgeTest {
    private static final Check CHECK = new Check("ChangeEdgeTest");
    private static final int LEAST = Integer.MIN_VALUE;
    private static final int MOST = Integer.MAX_VALUE;
    private static final String SHOW = "box 2 2 3;plane b. .b;plane c. ..;hole 0 0;hole 1 1;length 2;price 4;"
            + "viewer 1 b 9;viewer 1 b 9;viewer 1 b 9;viewer 1 b 3;";

    public static void main(String[] args) {
        fiveMethodsChange();
        changesThatKeepAll();
        whatIsNoChange();
        latestEight();
        finalAfterEight();
        noneOfThemUndone();
        firstListedException();
        throwingChangesNothing();
        passOneToFifty();
        passReturnsCoins();
        passThrows();
        pullReturnsRowsBefore();
        pullNoneToHeight();
        pullThrows();
        comeWaits();
        comeReturnsIndex();
        comeThrows();
        lengthReturnsPrevious();
        lengthLeavesLooks();
        lengthThrows();
        undoOfEachChange();
        undoReturns();
        undoLeavesBufferAndOffset();
        checksumWrapsAround();
        checksumTellsAll();
        CHECK.finish();
    }

    private static void throwsIllegalState(String call, LongSupplier run) {
        CHECK.throwing(call, IllegalStateException.class, run);
    }

    /** "The changing methods are load (when it succeeds), pass, pull, come and length" */
    private static void fiveMethodsChange() {
        PeepBox box = new PeepBox();
        Check.load(box, "box 2 2 2;");
        box.pass(1);
        box.pull(0, 1);
        box.come(0, 0, 0);
        box.length(1);
        for (int left = 4; left >= 0; left--) {
            CHECK.same("undo", box.undo(), left);
        }
        CHECK.same("undo", box.undo(), -1);
    }

    /** "each such call that does not throw an exception is a change, also if all data stay as they were" */
    private static void changesThatKeepAll() {
        PeepBox box = new PeepBox();
        Check.load(box, "box 4 3 2;");
        box.length(3);
        box.pull(0, 0);
        CHECK.same("all is as at first", box.checksum(), new PeepBox().checksum());
        CHECK.same("undo of a pull", box.undo(), 2);
        CHECK.same("undo of a length", box.undo(), 1);
        CHECK.same("undo of a load", box.undo(), 0);
        CHECK.same("undo", box.undo(), -1);
        CHECK.same("all is as at first", box.checksum(), new PeepBox().checksum());
    }

    /** No other method is a change, nor is a load that fails. */
    private static void whatIsNoChange() {
        PeepBox box = Check.loaded(SHOW);
        long before = box.checksum();
        Check.load(box, "box 1 1 1");
        box.load(0);
        box.append(0, 0, 0, 0, 0);
        box.errorOffset();
        box.state(0);
        box.stands(0, 0, 0);
        box.plane(0, 0);
        box.hole(0, 0);
        box.sees(0, 0, 0);
        box.shown(0, 0);
        box.why(0, 0, 0, 0);
        box.viewer(0, 0);
        box.price(0, 0);
        box.bestPull(0, 0);
        box.foretold(100, 0);
        box.emptyIn();
        box.meanPaid();
        CHECK.same("nothing has changed", box.checksum(), before);
        CHECK.same("undo of the first load", box.undo(), 0);
        CHECK.same("undo", box.undo(), -1);
    }

    /** "The latest 8 changes can be undone, the latest one first" */
    private static void latestEight() {
        for (int changes = 0; changes <= 10; changes++) {
            PeepBox box = new PeepBox();
            for (int i = 0; i < changes; i++) {
                box.length(10 + i);
            }
            int undone = Math.min(changes, 8);
            for (int i = 1; i <= undone; i++) {
                CHECK.same("undo no. " + i + " of " + changes, box.undo(), undone - i);
                CHECK.same("length then", box.state(5), changes == i ? 3 : 9 + changes - i);
            }
            int last = box.state(5);
            CHECK.same("one more undo of " + changes, box.undo(), -1);
            CHECK.same("length stays", box.state(5), last);
        }
    }

    /** "a change is final as soon as 8 later ones ... have been made" */
    private static void finalAfterEight() {
        PeepBox box = new PeepBox();
        box.length(20);
        for (int later = 1; later <= 7; later++) {
            box.pass(1);
        }
        for (int left = 7; left >= 1; left--) {
            CHECK.same("undo of a pass", box.undo(), left);
        }
        CHECK.same("undo of what 7 came after", box.undo(), 0);
        CHECK.same("length", box.state(5), 3);
        box.length(20);
        for (int later = 1; later <= 8; later++) {
            box.pass(1);
        }
        for (int left = 7; left >= 0; left--) {
            CHECK.same("undo of a pass", box.undo(), left);
        }
        CHECK.same("undo of what 8 came after", box.undo(), -1);
        CHECK.same("length", box.state(5), 20);
    }

    /** "8 later ones, none of them undone" */
    private static void noneOfThemUndone() {
        PeepBox box = new PeepBox();
        box.length(20);
        for (int later = 1; later <= 30; later++) {
            box.pass(1);
            CHECK.same("undo of a pass", box.undo(), 1);
        }
        for (int later = 1; later <= 7; later++) {
            box.pass(1);
        }
        CHECK.same("undo", box.undo(), 7);
        box.pass(1);
        for (int left = 7; left >= 0; left--) {
            CHECK.same("length is not final", box.state(5), 20);
            CHECK.same("undo", box.undo(), left);
        }
        CHECK.same("length is undone", box.state(5), 3);
        CHECK.same("undo", box.undo(), -1);
        box.length(19);
        for (int later = 1; later <= 8; later++) {
            box.pass(1);
        }
        box.undo();
        box.undo();
        for (int left = 5; left >= 0; left--) {
            CHECK.same("undo", box.undo(), left);
        }
        CHECK.same("what has become final stays so", box.undo(), -1);
        CHECK.same("length", box.state(5), 19);
    }

    /** "If several exceptions apply to a call, the one that is listed first with the method is thrown." */
    private static void firstListedException() {
        PeepBox box = Check.loaded("box 1 1 2;" + "viewer 1 a 1;".repeat(20));
        CHECK.outside("plane(2, 3)", () -> box.plane(2, 3));
        CHECK.outside("hole(1, 5)", () -> box.hole(1, 5));
        CHECK.outside("shown(1, 26)", () -> box.shown(1, 26));
        CHECK.outside("viewer(20, 7)", () -> box.viewer(20, 7));
        CHECK.outside("bestPull(2, 26)", () -> box.bestPull(2, 26));
        CHECK.outside("pull(2, 2)", () -> box.pull(2, 2));
        CHECK.outside("pull(-1, -1)", () -> box.pull(-1, -1));
        CHECK.illegal("pull(1, 2) of the back", () -> box.pull(1, 2));
        CHECK.illegal("pull(1, -1) of the back", () -> box.pull(1, -1));
        CHECK.illegal("come(10, 0, 0) to 20", () -> box.come(10, 0, 0));
        CHECK.illegal("come(0, 26, 0) to 20", () -> box.come(0, 26, 0));
        CHECK.illegal("come(0, 0, 1000) to 20", () -> box.come(0, 0, 1000));
        throwsIllegalState("come(0, 0, 0) to 20", () -> box.come(0, 0, 0));
        throwsIllegalState("pull(1, 1) of the back", () -> box.pull(1, 1));
    }

    /** "A method that throws an exception changes nothing." */
    private static void throwingChangesNothing() {
        PeepBox box = Check.loaded(SHOW + "viewer 1 c 1;".repeat(16));
        Check.load(box, "x");
        Check.append(box, "box 9 1 1;");
        box.pull(0, 1);
        box.pass(1);
        long before = box.checksum();
        CHECK.illegal("load", () -> box.load(21));
        CHECK.illegal("state", () -> box.state(14));
        CHECK.outside("stands", () -> box.stands(0, 2, 0));
        CHECK.outside("plane", () -> box.plane(3, 0));
        CHECK.illegal("plane", () -> box.plane(0, 3));
        CHECK.outside("hole", () -> box.hole(2, 0));
        CHECK.illegal("hole", () -> box.hole(0, 5));
        CHECK.outside("sees", () -> box.sees(0, 0, 2));
        CHECK.outside("shown", () -> box.shown(2, 0));
        CHECK.illegal("shown", () -> box.shown(0, 26));
        CHECK.outside("why", () -> box.why(0, 3, 0, 0));
        CHECK.outside("viewer", () -> box.viewer(20, 0));
        CHECK.illegal("viewer", () -> box.viewer(0, 7));
        CHECK.outside("price", () -> box.price(0, 2));
        CHECK.outside("bestPull", () -> box.bestPull(3, 0));
        CHECK.illegal("bestPull", () -> box.bestPull(0, 26));
        CHECK.illegal("foretold", () -> box.foretold(101, 0));
        CHECK.illegal("pass", () -> box.pass(51));
        CHECK.outside("pull", () -> box.pull(3, 0));
        CHECK.illegal("pull", () -> box.pull(0, 3));
        throwsIllegalState("pull", () -> box.pull(2, 0));
        CHECK.illegal("come", () -> box.come(10, 0, 0));
        throwsIllegalState("come", () -> box.come(0, 0, 0));
        CHECK.illegal("length", () -> box.length(21));
        CHECK.same("checksum", box.checksum(), before);
        CHECK.same("errorOffset", box.errorOffset(), 0);
        CHECK.same("undo of the pass", box.undo(), 2);
        CHECK.same("undo of the pull", box.undo(), 1);
        CHECK.same("the buffer", box.load(20), 0);
        CHECK.same("its width", box.state(0), 9);
    }

    /** "ticks: 1 to 50" */
    private static void passOneToFifty() {
        for (int ticks = 1; ticks <= 50; ticks++) {
            PeepBox box = Check.loaded("box 1 1 1;price 3;length 1;" + "viewer 0 a 3;".repeat(20));
            CHECK.same("coins in " + ticks, box.pass(ticks), 3 * Math.min(ticks - 1, 20));
            CHECK.same("time", box.state(6), ticks);
        }
    }

    /** "Returns the coins that were paid in them.": not those of before */
    private static void passReturnsCoins() {
        PeepBox box = Check.loaded("box 1 1 1;price 3;length 2;viewer 0 a 3;viewer 0 a 5;viewer 0 a 2;");
        int[] due = {0, 0, 3, 0, 3, 0};
        for (int tick = 0; tick < due.length; tick++) {
            CHECK.same("coins in tick " + tick, box.pass(1), due[tick]);
        }
        CHECK.same("all coins", box.state(12), 6);
        PeepBox all = Check.loaded("box 1 1 1;price 999;length 1;" + "viewer 0 a 999;".repeat(20));
        CHECK.same("the most that can be paid", all.pass(21), 19980);
    }

    /** "pass: Throws IllegalArgumentException if ticks is out of range" */
    private static void passThrows() {
        PeepBox box = new PeepBox();
        for (int wrong : new int[] {0, -1, 51, 100, LEAST, MOST}) {
            CHECK.illegal("pass(" + wrong + ")", () -> box.pass(wrong));
        }
        CHECK.same("time", box.state(6), 0);
        CHECK.same("undo", box.undo(), -1);
    }

    /** "Returns by how many rows it was pulled up before." */
    private static void pullReturnsRowsBefore() {
        PeepBox box = Check.loaded("box 1 8 3;");
        int[] rows = {0, 8, 8, 1, 7, 0};
        int before = 0;
        for (int row : rows) {
            CHECK.same("pull(0, " + row + ")", box.pull(0, row), before);
            CHECK.same("pull(1, 0), by itself", box.pull(1, 0), 0);
            before = row;
        }
    }

    /** "rows: 0 to the height" */
    private static void pullNoneToHeight() {
        for (int height = 1; height <= 8; height++) {
            int most = height;
            PeepBox box = Check.loaded("box 1 " + height + " 2;");
            for (int rows = 0; rows <= height; rows++) {
                box.pull(0, rows);
                CHECK.same("rows", box.plane(0, 0), rows);
            }
            CHECK.illegal("pull(0, " + (height + 1) + ")", () -> box.pull(0, most + 1));
            CHECK.illegal("pull(0, -1)", () -> box.pull(0, -1));
            CHECK.same("rows", box.plane(0, 0), height);
        }
    }

    /** "pull: Throws IndexOutOfBoundsException ..., IllegalArgumentException ..., IllegalStateException" */
    private static void pullThrows() {
        for (int planes = 1; planes <= 5; planes++) {
            int back = planes - 1;
            PeepBox box = Check.loaded("box 2 2 " + planes + ";");
            for (int wrong : new int[] {-1, planes, LEAST, MOST}) {
                CHECK.outside("pull(" + wrong + ", 0)", () -> box.pull(wrong, 0));
                CHECK.outside("pull(" + wrong + ", 3)", () -> box.pull(wrong, 3));
            }
            for (int wrong : new int[] {-1, 3, LEAST, MOST}) {
                CHECK.illegal("pull(0, " + wrong + ")", () -> box.pull(0, wrong));
                CHECK.illegal("pull of the back, " + wrong, () -> box.pull(back, wrong));
            }
            for (int rows = 0; rows <= 2; rows++) {
                int right = rows;
                throwsIllegalState("pull of the back, " + rows, () -> box.pull(back, right));
            }
            for (int plane = 0; plane < back; plane++) {
                CHECK.same("pull ahead of the back", box.pull(plane, 2), 0);
            }
            CHECK.same("only these are changes", box.undo(), back);
        }
    }

    /** "A viewer comes, and waits." */
    private static void comeWaits() {
        PeepBox box = Check.loaded("box 1 1 1;viewer 0 a 9;length 1;");
        box.pass(2);
        box.come(9, 25, 999);
        int[] due = {9, 25, 999, 0, -1, 0, 0};
        for (int what = 0; what < 7; what++) {
            CHECK.same("viewer(1, " + what + ")", box.viewer(1, what), due[what]);
        }
        CHECK.same("who waits", box.state(8), 1);
        box.undo();
        box.undo();
        box.come(0, 0, 0);
        CHECK.same("what the one who came instead paid", box.viewer(1, 6), 0);
    }

    /** "Returns the index of the viewer." */
    private static void comeReturnsIndex() {
        PeepBox box = new PeepBox();
        for (int viewer = 0; viewer < 20; viewer++) {
            CHECK.same("come", box.come(0, 0, viewer), viewer);
            CHECK.same("coins", box.viewer(viewer, 2), viewer);
        }
        box.undo();
        CHECK.same("come after undo", box.come(0, 0, 77), 19);
        CHECK.same("coins", box.viewer(19, 2), 77);
    }

    /** "come: Throws IllegalArgumentException ..., IllegalStateException if there are 20 viewers" */
    private static void comeThrows() {
        PeepBox box = new PeepBox();
        for (int round = 0; round < 2; round++) {
            for (int wrong : new int[] {-1, LEAST, MOST, 1000}) {
                CHECK.illegal("come(" + wrong + ", 0, 0)", () -> box.come(wrong, 0, 0));
                CHECK.illegal("come(0, " + wrong + ", 0)", () -> box.come(0, wrong, 0));
                CHECK.illegal("come(0, 0, " + wrong + ")", () -> box.come(0, 0, wrong));
            }
            CHECK.illegal("come(10, 0, 0)", () -> box.come(10, 0, 0));
            CHECK.illegal("come(0, 26, 0)", () -> box.come(0, 26, 0));
            for (int viewer = box.state(7); viewer < 20; viewer++) {
                CHECK.same("come", box.come(9, 25, 999), viewer);
            }
            throwsIllegalState("come(9, 25, 999)", () -> box.come(9, 25, 999));
            throwsIllegalState("come(0, 0, 0)", () -> box.come(0, 0, 0));
        }
        CHECK.same("viewers", box.state(7), 20);
    }

    /** "Returns the previous length." with "ticks: 1 to 20" */
    private static void lengthReturnsPrevious() {
        PeepBox box = new PeepBox();
        int before = 3;
        for (int ticks : new int[] {1, 20, 20, 2, 19}) {
            CHECK.same("length(" + ticks + ")", box.length(ticks), before);
            CHECK.same("state(5)", box.state(5), ticks);
            before = ticks;
        }
        CHECK.same("length of a text", Check.loaded("box 1 1 1;length 17;").length(1), 17);
    }

    /** "(looks that have begun stay as they are)" */
    private static void lengthLeavesLooks() {
        PeepBox box = Check.loaded("box 1 1 1;price 1;length 5;viewer 0 a 1;viewer 0 a 1;");
        box.pass(2);
        CHECK.same("ticks left", box.viewer(0, 5), 4);
        box.length(1);
        CHECK.same("ticks left of what has begun", box.viewer(0, 5), 4);
        box.length(20);
        CHECK.same("ticks left of what has begun", box.viewer(0, 5), 4);
        CHECK.same("not yet", box.pass(3), 0);
        CHECK.same("paid when it was due", box.pass(1), 1);
        CHECK.same("the next look", box.viewer(1, 5), 20);
    }

    /** "length: Throws IllegalArgumentException if ticks is out of range" */
    private static void lengthThrows() {
        PeepBox box = new PeepBox();
        for (int wrong : new int[] {0, -1, 21, LEAST, MOST}) {
            CHECK.illegal("length(" + wrong + ")", () -> box.length(wrong));
        }
        CHECK.same("state(5)", box.state(5), 3);
        CHECK.same("undo", box.undo(), -1);
    }

    /** "Undoes the latest change that is not final and has not been undone." */
    private static void undoOfEachChange() {
        PeepBox box = Check.loaded(SHOW);
        long[] sums = new long[8];
        sums[0] = box.checksum();
        box.pass(1);
        sums[1] = box.checksum();
        box.pull(0, 2);
        sums[2] = box.checksum();
        box.come(2, 3, 4);
        sums[3] = box.checksum();
        box.length(20);
        sums[4] = box.checksum();
        box.pass(2);
        sums[5] = box.checksum();
        box.pass(50);
        sums[6] = box.checksum();
        CHECK.same("load", Check.load(box, "box 1 1 1;price 9;viewer 0 a 1;"), 1);
        sums[7] = box.checksum();
        for (int left = 7; left >= 1; left--) {
            CHECK.same("a change", sums[left] == sums[left - 1] ? 1 : 0, 0);
            CHECK.same("undo", box.undo(), left);
            CHECK.same("checksum", box.checksum(), sums[left - 1]);
            CHECK.same("the price of the first text", box.price(0, 0), 4);
            CHECK.same("the view now", box.shown(0, 1), left > 2 ? 0 : 4);
        }
        CHECK.same("undo of the first load", box.undo(), 0);
        CHECK.same("checksum", box.checksum(), new PeepBox().checksum());
    }

    /** "Returns the number of changes that can still be undone; -1 if there was none to undo" */
    private static void undoReturns() {
        PeepBox box = new PeepBox();
        CHECK.same("undo of none", box.undo(), -1);
        CHECK.same("undo of none again", box.undo(), -1);
        box.pass(1);
        CHECK.same("undo of one", box.undo(), 0);
        CHECK.same("undo of none", box.undo(), -1);
        CHECK.same("nothing changes then", box.checksum(), new PeepBox().checksum());
        for (int changes = 1; changes <= 20; changes++) {
            box.pass(1);
            box.pass(1);
            CHECK.same("undo", box.undo(), Math.min(changes, 7));
        }
    }

    /** "The input buffer and the error offset are not affected." */
    private static void undoLeavesBufferAndOffset() {
        PeepBox box = new PeepBox();
        Check.load(box, "box 5 1 1;");
        Check.append(box, "box 7 1 1;");
        CHECK.same("undo of a load", box.undo(), 0);
        CHECK.same("errorOffset", box.errorOffset(), -1);
        CHECK.same("load of what was appended", box.load(20), 0);
        CHECK.same("width", box.state(0), 7);
        Check.load(box, "box 6 1 1;x");
        CHECK.same("undo of the load before", box.undo(), 0);
        CHECK.same("errorOffset", box.errorOffset(), 10);
        CHECK.same("undo of none", box.undo(), -1);
        CHECK.same("errorOffset", box.errorOffset(), 10);
        CHECK.illegal("the buffer is empty", () -> box.load(1));
    }

    /** "It starts at 0; each number n ... replaces it by 31 * checksum + n, wrapping around on overflow of a long" */
    private static void checksumWrapsAround() {
        PeepBox box = Check.loaded("box 12 8 5;" + "hole 11 7;".repeat(4) + "price 999;length 20;"
                + "viewer 9 z 999;".repeat(20));
        sum("full", box);
        box.pass(50);
        sum("later", box);
        sum("new", new PeepBox());
    }

    /** "state(0) to state(13); for each plane ... 0 to 2; for each hole ... 0 to 4; for each viewer ... 0 to 6" */
    private static void checksumTellsAll() {
        PeepBox box = Check.loaded(SHOW);
        sum("loaded", box);
        for (int step = 0; step < 6; step++) {
            box.pass(1);
            box.pull(step % 2, step % 3);
            box.come(step, step, step);
            sum("step " + step, box);
        }
    }

    /** The checksum as the remainder, by 2 to the 64th, of a number that does not wrap around. */
    private static void sum(String when, PeepBox box) {
        BigInteger sum = BigInteger.ZERO;
        for (int what = 0; what <= 13; what++) {
            sum = next(sum, box.state(what));
        }
        for (int plane = 0; plane < box.state(2); plane++) {
            for (int what = 0; what <= 2; what++) {
                sum = next(sum, box.plane(plane, what));
            }
        }
        for (int hole = 0; hole < box.state(3); hole++) {
            for (int what = 0; what <= 4; what++) {
                sum = next(sum, box.hole(hole, what));
            }
        }
        for (int viewer = 0; viewer < box.state(7); viewer++) {
            for (int what = 0; what <= 6; what++) {
                sum = next(sum, box.viewer(viewer, what));
            }
        }
        CHECK.same("it overflows, " + when, sum.bitLength() > 64 ? 1 : 0, 1);
        CHECK.same("checksum, " + when, box.checksum(), sum.longValue());
    }

    private static BigInteger next(BigInteger sum, int number) {
        return sum.multiply(BigInteger.valueOf(31)).add(BigInteger.valueOf(number));
    }
}
