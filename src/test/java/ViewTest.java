/** Promises 5 to 11 and 14: state, stands, plane, hole, sees, shown, why, bestPull. */
final class ViewTest {
    private static final Check CHECK = new Check("ViewTest");

    public static void main(String[] args) {
        state();
        stands();
        looksAcross();
        looksDown();
        hidden();
        bestPull();
        greatest();
        means();
        wrongCalls();
        CHECK.finish();
    }

    private static void state() {
        PeepBox box = Check.loaded("box 2 1 3;hole 0 0;hole 1 0;hole 1 0;reach 2;length 1;price 5;"
                + "viewer 0 a 7;viewer 1 a 4;viewer 2 a 9;viewer 2 a 9;viewer 1 a 9;viewer 1 a 9;viewer 1 a 8;");
        box.pass(1);
        box.length(4);
        box.pass(1);
        long[] due = {2, 1, 3, 3, 2, 4, 2, 7, 0, 3, 3, 1, 15, 0};
        for (int what = 0; what < due.length; what++) {
            CHECK.same("state(" + what + ")", box.state(what), due[what]);
        }
        CHECK.illegal("state(-1)", () -> box.state(-1));
        CHECK.illegal("state(14)", () -> box.state(14));
        CHECK.illegal("state(most)", () -> box.state(Integer.MAX_VALUE));
        box.come(0, 0, 9);
        CHECK.same("who waits", box.state(8), 1);
        box.pass(4);
        CHECK.same("free holes", box.state(13), 2);
    }

    private static void stands() {
        PeepBox box = Check.loaded("box 1 3 2;plane a b .;plane c d e;");
        int[][] due = {{0, 1, -1}, {1, -1, -1}, {-1, -1, -1}, {-1, -1, -1}};
        int[] standing = {2, 1, 0, 0};
        for (int rows = 0; rows <= 3; rows++) {
            box.pull(0, rows);
            CHECK.same("plane(0, 0)", box.plane(0, 0), rows);
            CHECK.same("plane(0, 1) at " + rows, box.plane(0, 1), standing[rows]);
            for (int y = 0; y < 3; y++) {
                CHECK.same("stands(0, 0, " + y + ") at " + rows, box.stands(0, 0, y), due[rows][y]);
                CHECK.same("stands(1, 0, " + y + ")", box.stands(1, 0, y), 2 + y);
            }
        }
        CHECK.same("plane(1, 0)", box.plane(1, 0), 0);
        CHECK.same("plane(1, 1)", box.plane(1, 1), 3);
    }

    /** The crossing's division rounds toward zero on both sides of a hole. */
    private static void looksAcross() {
        PeepBox box = Check.loaded("box 3 1 3;plane .b.;plane c..;plane xyz;hole 0 0;hole 2 0;");
        int[][] seen = {{102, 102, 225}, {223, 224, 225}};
        for (int hole = 0; hole < 2; hole++) {
            for (int x = 0; x < 3; x++) {
                CHECK.same("sees(" + hole + ", " + x + ", 0)", box.sees(hole, x, 0), seen[hole][x]);
            }
        }
        CHECK.same("shown(0, c)", box.shown(0, 2), 2);
        CHECK.same("shown(0, z)", box.shown(0, 25), 1);
        CHECK.same("shown(0, b)", box.shown(0, 1), 0);
        CHECK.same("shown(0, a)", box.shown(0, 0), 0);
        CHECK.same("shown(1, x)", box.shown(1, 23), 1);
        CHECK.same("hole(0, 3)", box.hole(0, 3), 2);
        CHECK.same("hole(0, 4)", box.hole(0, 4), 2);
        CHECK.same("hole(1, 3)", box.hole(1, 3), 3);
        CHECK.same("hole(1, 4)", box.hole(1, 4), 3);
        CHECK.same("plane(0, 2)", box.plane(0, 2), 0);
        CHECK.same("plane(1, 2)", box.plane(1, 2), 2);
        CHECK.same("plane(2, 2)", box.plane(2, 2), 4);
        CHECK.same("why of what is beside all looks", box.why(0, 0, 1, 0), 2);
        CHECK.same("why of the open cell", box.why(0, 0, 0, 0), 1);
        CHECK.same("why of the seen cell", box.why(0, 1, 0, 0), 0);
        CHECK.same("why of the open cell beside all looks", box.why(0, 1, 2, 0), 1);
        CHECK.same("why of the covered cell", box.why(0, 2, 0, 0), 3);
        CHECK.same("why of the covered cell", box.why(0, 2, 1, 0), 3);
        CHECK.same("why of the seen target", box.why(0, 2, 2, 0), 0);
        CHECK.same("why by the other hole", box.why(1, 1, 0, 0), 2);
        CHECK.same("why by the other hole", box.why(1, 2, 0, 0), 0);
        box.pull(1, 1);
        CHECK.same("sees what was covered", box.sees(0, 0, 0), 223);
        CHECK.same("shown of what was pulled away", box.shown(0, 2), 0);
        CHECK.same("why of what was covered", box.why(0, 2, 0, 0), 0);
        CHECK.same("why of what was pulled away", box.why(0, 1, 0, 0), 1);
        CHECK.same("depth then", box.hole(0, 4), 3);
    }

    /** The first hole crosses the plane 0 at 2, 3, 3, 3 and the plane 1 at 1, 2, 3, 3. */
    private static void looksDown() {
        PeepBox box = Check.loaded("box 1 4 3;plane . b . .;plane . . c d;plane w x y z;hole 0 3;hole 0 0;");
        int[][] seen = {{222, 102, 103, 103}, {222, 223, 224, 1}};
        for (int hole = 0; hole < 2; hole++) {
            for (int y = 0; y < 4; y++) {
                CHECK.same("sees(" + hole + ", 0, " + y + ")", box.sees(hole, 0, y), seen[hole][y]);
            }
        }
    }

    private static void hidden() {
        PeepBox box = Check.loaded("box 2 2 2;plane b. ..;plane cd ef;hole 0 0;");
        CHECK.same("all but one look end ahead", box.sees(0, 0, 0), 1);
        CHECK.same("(1, 0)", box.sees(0, 1, 0), 1);
        CHECK.same("(0, 1)", box.sees(0, 0, 1), 1);
        CHECK.same("(1, 1)", box.sees(0, 1, 1), 1);
        CHECK.same("why", box.why(0, 1, 1, 1), 3);
        CHECK.same("hole(0, 3)", box.hole(0, 3), 1);
        CHECK.same("hole(0, 4)", box.hole(0, 4), 1);
        box.pull(0, 1);
        CHECK.same("(1, 1) when pulled", box.sees(0, 1, 1), 105);
        CHECK.same("why when pulled", box.why(0, 1, 1, 1), 0);
        CHECK.same("hole(0, 3) when pulled", box.hole(0, 3), 4);
        CHECK.same("hole(0, 4) when pulled", box.hole(0, 4), 2);
    }

    /** Each cell's kind is another than those beside it, above it and behind it. */
    private static void greatest() {
        StringBuilder text = new StringBuilder("box 12 8 5;");
        for (int plane = 0; plane < 5; plane++) {
            text.append("plane");
            for (int y = 0; y < 8; y++) {
                text.append(' ');
                for (int x = 0; x < 12; x++) {
                    text.append((char) ('a' + (7 * plane + 5 * y + x) % 26));
                }
            }
            text.append(';');
        }
        PeepBox box = Check.loaded(text + "hole 0 0;hole 11 7;hole 5 4;hole 0 7;");
        for (int rows = 0; rows <= 8; rows++) {
            for (int plane = 0; plane < 4; plane++) {
                box.pull(plane, rows);
                CHECK.same("plane(" + plane + ", 1) at " + rows, box.plane(plane, 1), 96 - 12 * rows);
                for (int y = 0; y < 8; y++) {
                    for (int x = 0; x < 12; x++) {
                        CHECK.same("stands(" + plane + ", " + x + ", " + y + ") at " + rows, box.stands(plane, x, y),
                                y + rows < 8 ? (7 * plane + 5 * (y + rows) + x) % 26 : -1);
                    }
                }
            }
        }
        CHECK.same("bestPull of four holes", box.bestPull(0, 28 % 26), 8);
        for (int hole = 0; hole < 4; hole++) {
            for (int y = 0; y < 8; y++) {
                for (int x = 0; x < 12; x++) {
                    CHECK.same("sees(" + hole + ", " + x + ", " + y + ")", box.sees(hole, x, y),
                            400 + (28 + 5 * y + x) % 26);
                    CHECK.same("why(" + hole + ", 4, " + x + ", " + y + ")", box.why(hole, 4, x, y), 0);
                    CHECK.same("why(" + hole + ", 3, " + x + ", " + y + ")", box.why(hole, 3, x, y), 1);
                }
            }
        }
        CHECK.same("plane(4, 1)", box.plane(4, 1), 96);
        CHECK.same("plane(4, 2)", box.plane(4, 2), 384);
    }

    /** Depths whose sums leave all remainders. */
    private static void means() {
        String[] planes = {"plane b... ....;", "plane b... b...;", "plane bb.. ....;", "plane bbbb bbbb;"};
        int[] due = {1, 1, 1, 1};
        for (int i = 0; i < planes.length; i++) {
            PeepBox box = Check.loaded("box 4 2 2;" + planes[i] + "hole 0 0;");
            CHECK.same("depth of " + planes[i], box.hole(0, 4), due[i]);
        }
        PeepBox box = Check.loaded("box 3 1 2;plane b..;plane aaa;");
        CHECK.same("sees(0, 2, 0)", box.sees(0, 2, 0), 100);
        CHECK.same("depth of 4 by 3", box.hole(0, 4), 1);
        PeepBox five = Check.loaded("box 3 1 2;plane b..;hole 2 0;");
        CHECK.same("sees(0, 0, 0)", five.sees(0, 0, 0), 100);
        five.pull(0, 1);
        CHECK.same("depth of 6 by 3", five.hole(0, 4), 2);
        PeepBox two = Check.loaded("box 3 1 2;plane .b.;hole 2 0;");
        CHECK.same("sees(0, 0, 0)", two.sees(0, 0, 0), 1);
        CHECK.same("depth of 5 by 3", two.hole(0, 4), 1);
    }

    private static void bestPull() {
        PeepBox box = Check.loaded("box 1 3 2;plane a b .;plane c d e;");
        for (int rows = 3; rows >= 0; rows--) {
            box.pull(0, rows);
            long before = box.checksum();
            CHECK.same("bestPull(0, a)", box.bestPull(0, 0), 0);
            CHECK.same("bestPull(0, b)", box.bestPull(0, 1), 1);
            CHECK.same("bestPull(0, e)", box.bestPull(0, 4), 1);
            CHECK.same("bestPull(0, c)", box.bestPull(0, 2), 2);
            CHECK.same("bestPull(0, z)", box.bestPull(0, 25), 0);
            CHECK.same("bestPull(1, c)", box.bestPull(1, 2), 0);
            CHECK.same("bestPull changes nothing", box.checksum(), before);
        }
        PeepBox wide = Check.loaded("box 2 2 3;plane .. aa;plane b. ..;hole 0 0;hole 1 1;hole 0 1;");
        CHECK.same("bestPull(0, a) of all holes", wide.bestPull(0, 0), 1);
        wide.pull(0, 1);
        CHECK.same("bestPull(0, b) stays for what else is so", wide.bestPull(0, 1), 0);
        CHECK.same("bestPull(1, b) behind the pulled plane", wide.bestPull(1, 1), 0);
        wide.pull(0, 2);
        CHECK.same("bestPull(1, a) with the plane away", wide.bestPull(1, 0), 1);
        PeepBox far = Check.loaded("box 1 3 2;plane b b b;plane c c c;hole 0 2;");
        CHECK.same("two rows free all looks of this hole", far.bestPull(0, 2), 2);
        PeepBox top = Check.loaded("box 1 3 2;plane b b b;plane c c c;hole 0 0;");
        CHECK.same("the height is a pull, too", top.bestPull(0, 2), 3);
    }

    private static void wrongCalls() {
        PeepBox box = Check.loaded("box 3 2 2;hole 1 1;hole 0 0;");
        int least = Integer.MIN_VALUE;
        int most = Integer.MAX_VALUE;
        for (int wrong : new int[] {-1, 2, 12, 100, least, most}) {
            CHECK.outside("stands plane", () -> box.stands(wrong, 0, 0));
            CHECK.outside("stands y", () -> box.stands(0, 0, wrong));
            CHECK.outside("plane", () -> box.plane(wrong, 0));
            CHECK.outside("plane ahead of what", () -> box.plane(wrong, 3));
            CHECK.outside("hole", () -> box.hole(wrong, 0));
            CHECK.outside("hole ahead of what", () -> box.hole(wrong, 5));
            CHECK.outside("sees hole", () -> box.sees(wrong, 0, 0));
            CHECK.outside("sees y", () -> box.sees(0, 0, wrong));
            CHECK.outside("shown", () -> box.shown(wrong, 0));
            CHECK.outside("shown ahead of kind", () -> box.shown(wrong, 26));
            CHECK.outside("why hole", () -> box.why(wrong, 0, 0, 0));
            CHECK.outside("why plane", () -> box.why(0, wrong, 0, 0));
            CHECK.outside("why y", () -> box.why(0, 0, 0, wrong));
            CHECK.outside("bestPull", () -> box.bestPull(wrong, 0));
            CHECK.outside("bestPull ahead of kind", () -> box.bestPull(wrong, 26));
        }
        for (int wrong : new int[] {-1, 3, least, most}) {
            CHECK.outside("stands x", () -> box.stands(0, wrong, 0));
            CHECK.outside("sees x", () -> box.sees(0, wrong, 0));
            CHECK.outside("why x", () -> box.why(0, 0, wrong, 0));
            CHECK.illegal("plane what", () -> box.plane(1, wrong));
        }
        for (int wrong : new int[] {-1, 26, least, most}) {
            CHECK.illegal("hole what", () -> box.hole(1, wrong));
            CHECK.illegal("shown kind", () -> box.shown(1, wrong));
            CHECK.illegal("bestPull kind", () -> box.bestPull(0, wrong));
            CHECK.illegal("bestPull kind of the back", () -> box.bestPull(1, wrong));
        }
        CHECK.illegal("hole what", () -> box.hole(1, 5));
    }
}
