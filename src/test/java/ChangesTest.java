/** Promises 19 to 23: pull, come, length, undo, checksum. */
final class ChangesTest {
    private static final Check CHECK = new Check("ChangesTest");

    public static void main(String[] args) {
        pull();
        come();
        length();
        undoEach();
        undoEight();
        undoAndGoOn();
        undoLeavesBuffer();
        checksum();
        CHECK.finish();
    }

    private static void pull() {
        PeepBox box = Check.loaded("box 2 3 3;plane aa bb cc;plane dd ee ff;");
        CHECK.same("pull(0, 3)", box.pull(0, 3), 0);
        CHECK.same("pull(0, 1)", box.pull(0, 1), 3);
        CHECK.same("pull(0, 1)", box.pull(0, 1), 1);
        CHECK.same("pull(1, 2)", box.pull(1, 2), 0);
        CHECK.same("pull(0, 0)", box.pull(0, 0), 1);
        CHECK.same("plane(1, 0)", box.plane(1, 0), 2);
        CHECK.same("stands", box.stands(1, 0, 0), 5);
        CHECK.same("let down again", box.stands(0, 1, 2), 2);
        long before = box.checksum();
        for (int wrong : new int[] {-1, 3, Integer.MIN_VALUE, Integer.MAX_VALUE}) {
            CHECK.outside("pull plane", () -> box.pull(wrong, 0));
            CHECK.outside("pull plane ahead of rows", () -> box.pull(wrong, 4));
        }
        for (int wrong : new int[] {-1, 4, Integer.MIN_VALUE, Integer.MAX_VALUE}) {
            CHECK.illegal("pull rows", () -> box.pull(0, wrong));
            CHECK.illegal("pull rows ahead of the back", () -> box.pull(2, wrong));
        }
        CHECK.throwing("pull(2, 0)", IllegalStateException.class, () -> box.pull(2, 0));
        CHECK.throwing("pull(2, 3)", IllegalStateException.class, () -> box.pull(2, 3));
        CHECK.same("throwing pulls change nothing", box.checksum(), before);
        CHECK.same("throwing pulls are no changes", box.undo(), 5);
    }

    private static void come() {
        PeepBox box = Check.loaded("box 1 1 1;viewer 5 b 7;");
        CHECK.same("come", box.come(9, 25, 999), 1);
        CHECK.same("come", box.come(0, 0, 0), 2);
        int[] due = {9, 25, 999, 0, -1, 0, 0};
        for (int what = 0; what < due.length; what++) {
            CHECK.same("viewer(1, " + what + ")", box.viewer(1, what), due[what]);
        }
        box.pass(5);
        for (int viewer = 3; viewer < 20; viewer++) {
            CHECK.same("come", box.come(viewer % 10, viewer, viewer), viewer);
        }
        long before = box.checksum();
        CHECK.throwing("a 21st", IllegalStateException.class, () -> box.come(0, 0, 0));
        for (int wrong : new int[] {-1, 1000, Integer.MIN_VALUE, Integer.MAX_VALUE}) {
            CHECK.illegal("come height", () -> box.come(wrong, 0, 0));
            CHECK.illegal("come wish", () -> box.come(0, wrong, 0));
            CHECK.illegal("come coins", () -> box.come(0, 0, wrong));
        }
        CHECK.illegal("come height", () -> box.come(10, 0, 0));
        CHECK.illegal("come wish", () -> box.come(0, 26, 0));
        CHECK.same("nothing changed", box.checksum(), before);
        box.undo();
        CHECK.same("viewers", box.state(7), 19);
        CHECK.illegal("come height", () -> box.come(10, 0, 0));
        CHECK.same("come again", box.come(1, 2, 3), 19);
        CHECK.same("coins of who came again", box.viewer(19, 2), 3);
    }

    private static void length() {
        PeepBox box = Check.loaded("box 1 1 1;length 7;price 0;viewer 0 a 0;viewer 0 a 0;");
        CHECK.same("length(1)", box.length(1), 7);
        CHECK.same("length(20)", box.length(20), 1);
        box.pass(1);
        CHECK.same("ticks left", box.viewer(0, 5), 20);
        CHECK.same("length(2)", box.length(2), 20);
        CHECK.same("state(5)", box.state(5), 2);
        CHECK.same("ticks left stay", box.viewer(0, 5), 20);
        box.pass(20);
        CHECK.same("the next look's ticks", box.viewer(1, 5), 2);
        for (int wrong : new int[] {0, -1, 21, Integer.MIN_VALUE, Integer.MAX_VALUE}) {
            CHECK.illegal("length", () -> box.length(wrong));
        }
        CHECK.same("throwing lengths are no changes", box.undo(), 5);
    }

    private static void undoEach() {
        PeepBox box = new PeepBox();
        long[] sums = new long[6];
        sums[0] = box.checksum();
        Check.load(box, "box 3 3 3;plane a.. .b. ..c;plane d.. .e. ..f;hole 1 1;hole 2 0;length 2;reach 8;"
                + "price shown*3;viewer 1 a 50;viewer 2 e 60;viewer 3 d 0;viewer 4 a 10;");
        sums[1] = box.checksum();
        box.pull(0, 2);
        sums[2] = box.checksum();
        box.pass(4);
        sums[3] = box.checksum();
        box.come(1, 0, 99);
        sums[4] = box.checksum();
        box.length(9);
        sums[5] = box.checksum();
        for (int left = 4; left >= 0; left--) {
            CHECK.same("a change is seen", sums[left] == sums[left + 1] ? 1 : 0, 0);
            CHECK.same("undo", box.undo(), left);
            CHECK.same("checksum after undo to " + left, box.checksum(), sums[left]);
        }
        CHECK.same("undo", box.undo(), -1);
        CHECK.same("checksum", box.checksum(), sums[0]);
    }

    private static void undoEight() {
        PeepBox box = new PeepBox();
        for (int length = 1; length <= 20; length++) {
            box.length(length);
        }
        for (int left = 7; left >= 0; left--) {
            CHECK.same("undo", box.undo(), left);
            CHECK.same("length", box.state(5), left + 12);
        }
        CHECK.same("undo", box.undo(), -1);
        CHECK.same("length", box.state(5), 12);
        CHECK.same("undo", box.undo(), -1);
    }

    private static void undoAndGoOn() {
        PeepBox box = new PeepBox();
        for (int length = 1; length <= 9; length++) {
            box.length(length);
        }
        CHECK.same("undo", box.undo(), 7);
        CHECK.same("undo", box.undo(), 6);
        box.length(20);
        CHECK.same("undo of the new change", box.undo(), 6);
        CHECK.same("length", box.state(5), 7);
        box.length(7);
        CHECK.same("undo of a change that kept all", box.undo(), 6);
        for (int left = 5; left >= 0; left--) {
            CHECK.same("undo", box.undo(), left);
            CHECK.same("length", box.state(5), left + 1);
        }
        CHECK.same("what was final stays so", box.undo(), -1);
    }

    private static void undoLeavesBuffer() {
        PeepBox box = new PeepBox();
        Check.load(box, "box 1 1 1;");
        Check.append(box, "box 2 2 2;");
        box.pass(1);
        CHECK.same("undo", box.undo(), 1);
        CHECK.same("the buffer is as it was", box.append(0x20202020, 0x20202020, 0x20202020, 0x20202020, 0x20202020), 40);
        CHECK.same("load", box.load(40), 0);
        CHECK.same("width", box.state(0), 2);
        Check.load(box, "box 1 1 1;;");
        CHECK.same("undo", box.undo(), 1);
        CHECK.same("the error's offset is as it was", box.errorOffset(), 10);
        CHECK.same("width", box.state(0), 1);
    }

    private static void checksum() {
        int[] fresh = {4, 3, 2, 1, 9, 3, 0, 0, 0, 0, 0, 0, 0, 1, 0, 0, 0, 0, 12, 12, 0, 0, -1, 1, 2};
        CHECK.same("checksum of a new object", new PeepBox().checksum(), sum(fresh));
        PeepBox box = Check.loaded("box 3 1 3;plane .b.;plane c..;plane xyz;hole 0 0;hole 2 0;reach 8;"
                + "viewer 1 x 9;viewer 2 c 4;viewer 3 a 0;length 1;price 2+shown;");
        box.pass(2);
        int[] due = {
            3, 1, 3, 2, 8, 1, 2, 3, 0, 0, 2, 1, 7, 2,
            0, 1, 0, 0, 1, 2, 0, 3, 4,
            0, 0, -1, 2, 2, 2, 0, -1, 3, 3,
            1, 23, 6, 2, -1, 0, 3, 2, 2, 0, 2, -1, 0, 4, 3, 0, 0, 3, -1, 0, 0};
        CHECK.same("checksum", box.checksum(), sum(due));
        CHECK.same("checksum again", box.checksum(), sum(due));
    }

    private static long sum(int[] numbers) {
        long sum = 0;
        for (int number : numbers) {
            sum = 31 * sum + number;
        }
        return sum;
    }
}
