/**
 * "What it is", "Conventions", "The box" and "Viewers": each sentence that names a boundary case has a test
 * of its own here, with the sentence above it.
 */
final class TermsEdgeTest {
    private static final Check CHECK = new Check("TermsEdgeTest");
    private static final String ALPHABET = "abcdefghijkl";

    public static void main(String[] args) {
        calls512();
        divisionRoundsTowardZero();
        timeIsZeroAtFirst();
        kindsFromAToZ();
        indexesOfPlanes();
        noCellOfTheBackIsOpen();
        cellsFromLeftAndTop();
        pullsFromNoneToAll();
        belowTheLastRow();
        oneToFourHoles();
        crossings();
        firstThatIsNotOpen();
        targetBehindOpenCells();
        viewIsAllTargets();
        atMostTwentyViewers();
        rangesOfViewers();
        reachWithoutSign();
        lengthOneAndTwenty();
        freeHoles();
        priceZeroToMost();
        operandsOfThePrice();
        priceOfTheViewNow();
        divisionByZero();
        leftToRight();
        resultsAreLimited();
        noPriceStatement();
        tickOneEndsLooks();
        tickOneAllCoins();
        tickTwoGoes();
        tickTwoFreeOrNot();
        tickTwoFreeSinceTickOne();
        tickTwoMostOften();
        tickTwoTicksLeft();
        tickTwoGoesOnWaiting();
        tickTwoByRisingIndexes();
        tickThreeTime();
        CHECK.finish();
    }

    /** "An object is used for at most 512 calls after it has been made." */
    private static void calls512() {
        PeepBox box = new PeepBox();
        for (int call = 1; call <= 502; call++) {
            CHECK.same("length, call " + call, box.length(call % 20 + 1), call == 1 ? 3 : (call - 1) % 20 + 1);
        }
        for (int left = 7; left >= 0; left--) {
            CHECK.same("undo", box.undo(), left);
        }
        CHECK.same("undo, call 511", box.undo(), -1);
        CHECK.same("length, call 512", box.state(5), 494 % 20 + 1);
    }

    /** "Division rounds toward zero." */
    private static void divisionRoundsTowardZero() {
        PeepBox left = Check.loaded("box 2 1 2;plane b.;plane cd;hole 1 0;");
        CHECK.same("-1 * 1 / 2 across", left.sees(0, 0, 0), 102);
        PeepBox up = Check.loaded("box 1 2 2;plane b .;plane c d;hole 0 1;");
        CHECK.same("-1 * 1 / 2 down", up.sees(0, 0, 0), 102);
        PeepBox right = Check.loaded("box 2 1 2;plane .b;plane cd;hole 0 0;");
        CHECK.same("1 * 1 / 2 across", right.sees(0, 1, 0), 103);
        PeepBox down = Check.loaded("box 1 2 2;plane . b;plane c d;hole 0 0;");
        CHECK.same("1 * 1 / 2 down", down.sees(0, 0, 1), 103);
        price("10+(0-7)/2", 7);
        price("10-7/2", 7);
        PeepBox depth = Check.loaded("box 3 1 2;plane .b.;hole 2 0;");
        CHECK.same("depth 5 / 3", depth.hole(0, 4), 1);
    }

    /** "Time is counted in ticks, 0 at first." */
    private static void timeIsZeroAtFirst() {
        PeepBox box = new PeepBox();
        CHECK.same("time at first", box.state(6), 0);
        box.pass(1);
        CHECK.same("time after a tick", box.state(6), 1);
        box.pass(50);
        CHECK.same("time after 51 ticks", box.state(6), 51);
    }

    /** "Kinds are numbered from 0 for a to 25 for z." */
    private static void kindsFromAToZ() {
        PeepBox box = Check.loaded("box 2 1 1;plane az;viewer 0 a 0;viewer 0 z 0;");
        CHECK.same("stands a", box.stands(0, 0, 0), 0);
        CHECK.same("stands z", box.stands(0, 1, 0), 25);
        CHECK.same("sees a", box.sees(0, 0, 0), 0);
        CHECK.same("sees z", box.sees(0, 1, 0), 25);
        CHECK.same("shown a", box.shown(0, 0), 1);
        CHECK.same("shown z", box.shown(0, 25), 1);
        CHECK.same("shown b", box.shown(0, 1), 0);
        CHECK.same("shown y", box.shown(0, 24), 0);
        CHECK.same("wish a", box.viewer(0, 1), 0);
        CHECK.same("wish z", box.viewer(1, 1), 25);
    }

    /** "The box has ... 1 to 5 planes, with indexes from 0 for the foremost one." */
    private static void indexesOfPlanes() {
        for (int planes = 1; planes <= 5; planes++) {
            int count = planes;
            StringBuilder text = new StringBuilder("box 1 1 " + planes + ";");
            for (int plane = 0; plane < planes; plane++) {
                text.append("plane ").append((char) ('b' + plane)).append(';');
            }
            PeepBox box = Check.loaded(text.toString());
            CHECK.same("planes", box.state(2), planes);
            for (int plane = 0; plane < planes; plane++) {
                CHECK.same("stands(" + plane + ", 0, 0) of " + planes, box.stands(plane, 0, 0), plane + 1);
            }
            CHECK.outside("plane " + planes + " of as many", () -> box.stands(count, 0, 0));
            CHECK.outside("plane -1", () -> box.stands(-1, 0, 0));
            CHECK.same("the foremost is seen", box.sees(0, 0, 0), 1);
        }
    }

    /** "The last plane is the back: none of its cells is open." */
    private static void noCellOfTheBackIsOpen() {
        for (int planes = 1; planes <= 5; planes++) {
            PeepBox box = Check.loaded("box 12 8 " + planes + ";");
            CHECK.same("cells of the back of " + planes, box.plane(planes - 1, 1), 96);
            CHECK.same("its corner", box.stands(planes - 1, 11, 7), 0);
            for (int plane = 0; plane < planes - 1; plane++) {
                CHECK.same("cells ahead of the back", box.plane(plane, 1), 0);
            }
        }
    }

    /** "a cell has an x from 0, from the left, and a y from 0, from the top." */
    private static void cellsFromLeftAndTop() {
        PeepBox box = Check.loaded("box 12 8 1;plane bcdefghijklm" + " aaaaaaaaaaaa".repeat(6) + " nopqrstuvwxy;");
        for (int x = 0; x < 12; x++) {
            CHECK.same("stands(0, " + x + ", 0)", box.stands(0, x, 0), 1 + x);
            CHECK.same("stands(0, " + x + ", 1)", box.stands(0, x, 1), 0);
            CHECK.same("stands(0, " + x + ", 6)", box.stands(0, x, 6), 0);
            CHECK.same("stands(0, " + x + ", 7)", box.stands(0, x, 7), 13 + x);
        }
        CHECK.outside("x 12", () -> box.stands(0, 12, 0));
        CHECK.outside("y 8", () -> box.stands(0, 0, 8));
        CHECK.outside("x -1", () -> box.stands(0, -1, 7));
        CHECK.outside("y -1", () -> box.stands(0, 11, -1));
    }

    /** "A plane other than the back can be pulled up by 0 to height rows" */
    private static void pullsFromNoneToAll() {
        for (int height = 1; height <= 8; height++) {
            int rows = height;
            PeepBox box = Check.loaded("box 1 " + height + " 3;plane" + " b".repeat(height) + ";");
            CHECK.same("pull of no row", box.pull(0, 0), 0);
            CHECK.same("cells at pull 0", box.plane(0, 1), height);
            CHECK.same("pull of all rows", box.pull(0, height), 0);
            CHECK.same("cells at pull " + height, box.plane(0, 1), 0);
            CHECK.same("pull of the plane ahead of the back", box.pull(1, height), 0);
            CHECK.illegal("pull of a row more", () -> box.pull(0, rows + 1));
            CHECK.illegal("pull of a row fewer", () -> box.pull(0, -1));
            CHECK.throwing("pull of the back", IllegalStateException.class, () -> box.pull(2, rows));
        }
    }

    /** "there stands then what the plane has at x and y + the pull, and nothing if that is below its last row" */
    private static void belowTheLastRow() {
        PeepBox box = Check.loaded("box 2 3 2;plane b. c. d.;");
        int[][] due = {{1, 2, 3}, {2, 3, -1}, {3, -1, -1}, {-1, -1, -1}};
        for (int rows = 0; rows <= 3; rows++) {
            box.pull(0, rows);
            for (int y = 0; y < 3; y++) {
                CHECK.same("stands(0, 0, " + y + ") at " + rows, box.stands(0, 0, y), due[rows][y]);
                CHECK.same("the open cell beside", box.stands(0, 1, y), -1);
            }
        }
        PeepBox high = Check.loaded("box 1 8 3;" + ("plane" + " b".repeat(8) + ";").repeat(3));
        for (int rows = 0; rows <= 8; rows++) {
            for (int plane = 0; plane < 2; plane++) {
                high.pull(plane, rows);
                CHECK.same("cells at pull " + rows, high.plane(plane, 1), 8 - rows);
                CHECK.same("the lowest cell at pull " + rows, high.stands(plane, 0, 7), rows == 0 ? 1 : -1);
            }
        }
    }

    /** "There are 1 to 4 holes, with indexes from 0, each with an x (0 to width - 1) and a y (0 to height - 1)." */
    private static void oneToFourHoles() {
        String[] holes = {"hole 11 7;", "hole 0 7;", "hole 11 0;", "hole 0 0;"};
        int[][] due = {{11, 7}, {0, 7}, {11, 0}, {0, 0}};
        StringBuilder text = new StringBuilder("box 12 8 1;");
        for (int count = 1; count <= 4; count++) {
            int many = count;
            text.append(holes[count - 1]);
            PeepBox box = Check.loaded(text.toString());
            CHECK.same("holes", box.state(3), count);
            for (int hole = 0; hole < count; hole++) {
                CHECK.same("x of hole " + hole, box.hole(hole, 0), due[hole][0]);
                CHECK.same("y of hole " + hole, box.hole(hole, 1), due[hole][1]);
            }
            CHECK.outside("hole " + count + " of as many", () -> box.hole(many, 0));
            CHECK.outside("hole -1", () -> box.hole(-1, 0));
        }
    }

    /** "it crosses the plane p at x = hole's x + (target's x - hole's x) * (p + 1) / n, and y likewise" */
    private static void crossings() {
        for (int planes = 1; planes <= 5; planes++) {
            for (int plane = 0; plane < planes; plane++) {
                String ahead = "plane" + " ............".repeat(8) + ";";
                PeepBox across = Check.loaded("box 12 8 " + planes + ";" + ahead.repeat(plane)
                        + "plane" + (" " + ALPHABET).repeat(8) + ";hole 0 3;hole 11 3;hole 5 3;");
                PeepBox down = Check.loaded("box 1 8 " + planes + ";" + "plane . . . . . . . .;".repeat(plane)
                        + "plane a b c d e f g h;hole 0 0;hole 0 7;hole 0 4;");
                for (int to = 0; to < 12; to++) {
                    crossing(across, 0, to, 3, 100 * plane + to * (plane + 1) / planes);
                    crossing(across, 1, to, 3, 100 * plane + 11 - (11 - to) * (plane + 1) / planes);
                    crossing(across, 2, to, 3, 100 * plane + between(5, to, plane + 1, planes));
                }
                for (int to = 0; to < 8; to++) {
                    crossing(down, 0, 0, to, 100 * plane + to * (plane + 1) / planes);
                    crossing(down, 1, 0, to, 100 * plane + 7 - (7 - to) * (plane + 1) / planes);
                    crossing(down, 2, 0, to, 100 * plane + between(4, to, plane + 1, planes));
                }
            }
        }
    }

    private static void crossing(PeepBox box, int hole, int x, int y, int due) {
        CHECK.same("sees(" + hole + ", " + x + ", " + y + ") of " + box.state(2), box.sees(hole, x, y), due);
    }

    private static int between(int from, int to, int steps, int all) {
        return to >= from ? from + (to - from) * steps / all : from - (from - to) * steps / all;
    }

    /** "What is seen is the kind that stands at the first of these cells (from the plane 0 on) that is not open" */
    private static void firstThatIsNotOpen() {
        PeepBox box = Check.loaded("box 1 1 5;plane b;plane c;plane d;plane e;plane f;");
        for (int plane = 0; plane < 5; plane++) {
            CHECK.same("seen plane and kind", box.sees(0, 0, 0), 101 * plane + 1);
            CHECK.same("targets that see it", box.plane(plane, 2), 1);
            if (plane < 4) {
                box.pull(plane, 1);
            }
        }
        box.pull(2, 0);
        CHECK.same("let down between", box.sees(0, 0, 0), 203);
    }

    /** "(So the target itself is seen if all cells ahead of it are open.)" */
    private static void targetBehindOpenCells() {
        PeepBox box = Check.loaded("box 12 8 5;plane" + " ............".repeat(8) + ";hole 11 7;hole 0 0;hole 6 3;");
        for (int hole = 0; hole < 3; hole++) {
            for (int y = 0; y < 8; y++) {
                for (int x = 0; x < 12; x++) {
                    CHECK.same("sees(" + hole + ", " + x + ", " + y + ")", box.sees(hole, x, y), 400);
                    CHECK.same("why(" + hole + ", 4, " + x + ", " + y + ")", box.why(hole, 4, x, y), 0);
                }
            }
        }
        PeepBox kinds = Check.loaded("box 3 2 4;plane ... ...;plane ... ...;plane ... ...;plane abc def;hole 2 1;");
        for (int i = 0; i < 6; i++) {
            CHECK.same("sees target " + i, kinds.sees(0, i % 3, i / 3), 300 + i);
        }
    }

    /** "The view of a hole are all width * height targets" */
    private static void viewIsAllTargets() {
        int[][] sizes = {{1, 1}, {12, 1}, {1, 8}, {12, 8}};
        for (int[] size : sizes) {
            PeepBox box = Check.loaded("box " + size[0] + " " + size[1] + " 2;hole 0 0;hole 0 0;");
            CHECK.same("shown", box.shown(1, 0), size[0] * size[1]);
            CHECK.same("targets of both holes", box.plane(1, 2), 2 * size[0] * size[1]);
            CHECK.same("last target", box.sees(0, size[0] - 1, size[1] - 1), 100);
            CHECK.outside("x beyond the last target", () -> box.sees(0, size[0], size[1] - 1));
            CHECK.outside("y beyond the last target", () -> box.sees(0, size[0] - 1, size[1]));
        }
    }

    /** "There are at most 20 viewers (those who left or went, too), with indexes from 0 in the order they came." */
    private static void atMostTwentyViewers() {
        PeepBox box = Check.loaded("box 1 1 1;price 5;length 1;viewer 0 a 5;viewer 0 b 4;");
        for (int viewer = 2; viewer < 20; viewer++) {
            box.pass(2);
            CHECK.same("come", box.come(0, viewer, viewer % 2 == 0 ? 9 : 0), viewer);
        }
        box.pass(3);
        CHECK.same("who left", box.state(10), 10);
        CHECK.same("who went", box.state(11), 10);
        CHECK.throwing("a 21st comes", IllegalStateException.class, () -> box.come(0, 0, 0));
        for (int viewer = 2; viewer < 20; viewer++) {
            CHECK.same("wish of " + viewer, box.viewer(viewer, 1), viewer);
        }
        PeepBox told = Check.loaded("box 1 1 1;" + "viewer 1 c 2;".repeat(20));
        CHECK.throwing("a 21st comes to those told", IllegalStateException.class, () -> told.come(0, 0, 0));
        CHECK.outside("viewer 20", () -> told.viewer(20, 0));
    }

    /** "A viewer has a height (0 to 9), a wish (a kind), and coins (0 to 999)." */
    private static void rangesOfViewers() {
        PeepBox box = Check.loaded("box 1 1 1;viewer 0 a 0;viewer 9 z 999;");
        box.come(0, 0, 0);
        box.come(9, 25, 999);
        for (int viewer = 0; viewer < 4; viewer++) {
            CHECK.same("height", box.viewer(viewer, 0), viewer % 2 * 9);
            CHECK.same("wish", box.viewer(viewer, 1), viewer % 2 * 25);
            CHECK.same("coins", box.viewer(viewer, 2), viewer % 2 * 999);
        }
    }

    /** "the difference ..., without its sign, is at most the reach (0 to 9)" */
    private static void reachWithoutSign() {
        for (int reach = 0; reach <= 9; reach++) {
            StringBuilder text = new StringBuilder("box 1 8 1;hole 0 0;hole 0 7;hole 0 3;price 7;reach " + reach + ";");
            for (int height = 0; height <= 9; height++) {
                text.append("viewer ").append(height).append(" a 9;");
            }
            PeepBox box = Check.loaded(text.toString());
            int[] holes = {7, 0, 4};
            for (int height = 0; height <= 9; height++) {
                for (int hole = 0; hole < 3; hole++) {
                    boolean far = height - holes[hole] > reach || holes[hole] - height > reach;
                    CHECK.same("price(" + height + ", " + hole + ") at reach " + reach, box.price(height, hole),
                            far ? -1 : 7);
                }
            }
        }
    }

    /** "A look lasts some ticks (the length, 1 to 20)." */
    private static void lengthOneAndTwenty() {
        for (int length = 1; length <= 20; length++) {
            PeepBox box = Check.loaded("box 1 1 1;price 4;viewer 0 a 9;length " + length + ";");
            CHECK.same("emptyIn at length " + length, box.emptyIn(), length + 1);
            box.pass(length);
            CHECK.same("looks at length " + length, box.viewer(0, 3), 1);
            CHECK.same("the last tick's coins", box.pass(1), 4);
            CHECK.same("left at length " + length, box.viewer(0, 3), 2);
        }
    }

    /** "A viewer who looks has a hole, and the ticks that are left; a hole at which nobody looks is free." */
    private static void freeHoles() {
        PeepBox box = Check.loaded("box 1 1 1;hole 0 0;hole 0 0;length 1;price 0;viewer 0 a 0;");
        freeHoles(box, -1, 2, -1, 0);
        box.pass(1);
        freeHoles(box, 0, 1, 0, 1);
        box.pass(1);
        freeHoles(box, -1, 2, -1, 0);
    }

    private static void freeHoles(PeepBox box, int looker, int free, int hole, int ticks) {
        CHECK.same("who looks through 0", box.hole(0, 2), looker);
        CHECK.same("who looks through 1", box.hole(1, 2), -1);
        CHECK.same("free holes", box.state(13), free);
        CHECK.same("viewer's hole", box.viewer(0, 4), hole);
        CHECK.same("viewer's ticks", box.viewer(0, 5), ticks);
    }

    /** In a box with one cell: shown, kinds and depth are 1 each, hole is 0. */
    private static void price(String sum, int due) {
        PeepBox box = Check.loaded("box 1 1 1;price " + sum + ";viewer 0 a 999;");
        CHECK.same("price " + sum, box.price(0, 0), due);
    }

    /** "The price ... is the value of an expression, limited to 0 to 999" */
    private static void priceZeroToMost() {
        price("0", 0);
        price("1", 1);
        price("0-1", 0);
        price("0-9999*9999", 0);
        price("998", 998);
        price("999", 999);
        price("1000", 999);
        price("9999*9999", 999);
        PeepBox box = Check.loaded("box 1 1 1;price 9999;length 1;viewer 0 a 999;viewer 0 a 998;");
        box.pass(1);
        CHECK.same("999 coins are enough", box.viewer(0, 3), 1);
        CHECK.same("998 coins are not", box.viewer(1, 3), 3);
        CHECK.same("999 is paid", box.pass(1), 999);
    }

    /** "shown is how many targets show the wish, kinds how many different kinds are seen, depth the sum of ..." */
    private static void operandsOfThePrice() {
        String text = "box 3 1 2;plane ..b;plane cde;hole 0 0;hole 2 0;viewer 0 d 0;viewer 0 b 0;viewer 0 z 0;price ";
        PeepBox shown = Check.loaded(text + "shown;");
        int[][] due = {{1, 0}, {0, 2}, {0, 0}};
        for (int viewer = 0; viewer < 3; viewer++) {
            for (int hole = 0; hole < 2; hole++) {
                CHECK.same("shown", shown.price(viewer, hole), due[viewer][hole]);
                CHECK.same("kinds", Check.loaded(text + "kinds;").price(viewer, hole), 3 - hole);
                CHECK.same("depth", Check.loaded(text + "depth;").price(viewer, hole), 2 - hole);
                CHECK.same("hole", Check.loaded(text + "hole;").price(viewer, hole), hole);
            }
        }
        PeepBox last = Check.loaded("box 1 1 5;hole 0 0;hole 0 0;hole 0 0;hole 0 0;price depth*10+hole;viewer 0 a 0;");
        CHECK.same("depth of the 5th plane, the 4th hole", last.price(0, 3), 53);
    }

    /** "all by the view as it is when it is asked for" */
    private static void priceOfTheViewNow() {
        PeepBox box = Check.loaded("box 1 1 2;plane b;plane c;price shown*100+depth;viewer 0 b 500;");
        CHECK.same("price", box.price(0, 0), 101);
        box.pull(0, 1);
        CHECK.same("price when pulled", box.price(0, 0), 2);
        box.bestPull(0, 1);
        CHECK.same("price after bestPull", box.price(0, 0), 2);
        box.pull(0, 0);
        CHECK.same("price when let down", box.price(0, 0), 101);
        box.undo();
        CHECK.same("price after undo", box.price(0, 0), 2);
        Check.load(box, "box 1 1 2;plane b;plane c;price shown*200+depth;viewer 0 b 500;");
        CHECK.same("price after load", box.price(0, 0), 201);
    }

    /** "Division by 0 gives 0" */
    private static void divisionByZero() {
        price("5/0", 0);
        price("0/0", 0);
        price("7+5/0", 7);
        price("5/0+7", 7);
        price("5/(1-1)", 0);
        price("5/hole", 0);
        price("5/0/0", 0);
        price("5/0*3+1", 1);
        price("8-(0-5)/hole", 8);
    }

    /** "the operations of one sum or term are made from the left to the right" */
    private static void leftToRight() {
        price("9-5-3", 1);
        price("9-5+3", 7);
        price("9/2*2", 8);
        price("2*9/2", 9);
        price("100/5/2", 10);
        price("9-4*2-1", 0);
        price("9-4/2*2-1", 4);
        price("9-(5-3)", 7);
        price("100/(5/2)", 50);
    }

    /** "the result of each one is limited to the range -1000000 to 1000000" */
    private static void resultsAreLimited() {
        price("999*1001+1-999*1001", 1);
        price("1000*1000+1-1000*1000", 0);
        price("5-999*1001-6+1000*1000", 0);
        price("0-999*1001-1+1000*1000+5", 5);
        price("0-999*1001-2+1000*1000+5", 5);
        price("1000*1000-999*1001", 1);
        price("9999*101/1010", 990);
        price("(0-9999)*101/1010+999", 9);
        price("9999*9999*9999/(1000*1000)", 1);
        price("(0-9999)*9999*9999/(1000*1000)+9", 8);
        price("(0-9999)*9999*(0-9999)/(1000*1000)", 1);
        price("(9999*9999+9999*9999)/1250", 800);
    }

    /** "Without a price statement the price is 1 + shown." */
    private static void noPriceStatement() {
        PeepBox box = Check.loaded("box 12 8 2;viewer 0 a 0;viewer 0 b 0;hole 3 3;");
        CHECK.same("all 96 targets show it", box.price(0, 0), 97);
        CHECK.same("no target shows it", box.price(1, 0), 1);
        box.come(0, 0, 0);
        CHECK.same("of one who came", box.price(2, 0), 97);
        PeepBox fresh = new PeepBox();
        fresh.come(0, 0, 0);
        CHECK.same("in a new object", fresh.price(0, 0), 13);
    }

    /** "If they become 0, the viewer pays the price by the view as it is then, and left." */
    private static void tickOneEndsLooks() {
        PeepBox box = Check.loaded("box 1 1 2;plane b;plane c;price 1+shown*6;length 2;viewer 0 c 100;");
        box.pass(1);
        CHECK.same("ticks left", box.viewer(0, 5), 2);
        CHECK.same("nothing is paid yet", box.pass(1), 0);
        CHECK.same("ticks left", box.viewer(0, 5), 1);
        box.pull(0, 1);
        CHECK.same("the price then", box.pass(1), 7);
        CHECK.same("coins", box.viewer(0, 2), 93);
        CHECK.same("left", box.viewer(0, 3), 2);
        CHECK.same("hole", box.viewer(0, 4), -1);
        CHECK.same("ticks left", box.viewer(0, 5), 0);
        CHECK.same("paid", box.viewer(0, 6), 7);
        CHECK.same("nothing more is paid", box.pass(50), 0);
    }

    /** "(all coins, if these are fewer)" */
    private static void tickOneAllCoins() {
        for (int coins = 5; coins <= 9; coins++) {
            PeepBox box = Check.loaded("box 1 1 2;plane b;plane c;price 5+shown*2;length 1;viewer 0 c " + coins + ";");
            box.pass(1);
            box.pull(0, 1);
            CHECK.same("paid of " + coins, box.pass(1), Math.min(coins, 7));
            CHECK.same("coins left of " + coins, box.viewer(0, 2), Math.max(coins - 7, 0));
        }
        PeepBox none = Check.loaded("box 1 1 2;plane b;plane c;price shown;length 1;viewer 0 c 0;");
        none.pass(1);
        none.pull(0, 1);
        CHECK.same("paid of none", none.pass(1), 0);
        CHECK.same("left all the same", none.state(10), 1);
    }

    /** "the viewer goes without a look if there is no hole ... whose price is not greater than the viewer's coins" */
    private static void tickTwoGoes() {
        PeepBox box = Check.loaded("box 1 2 1;hole 0 0;hole 0 1;reach 0;price 5+hole;length 9;"
                + "viewer 1 a 5;viewer 1 a 4;viewer 0 a 6;viewer 0 a 5;viewer 2 a 999;");
        box.pass(1);
        int[] due = {1, 3, 1, 3, 3};
        for (int viewer = 0; viewer < due.length; viewer++) {
            CHECK.same("viewer(" + viewer + ", 3)", box.viewer(viewer, 3), due[viewer]);
            CHECK.same("who went has coins as before", box.viewer(viewer, 2), new int[] {5, 4, 6, 5, 999}[viewer]);
        }
        CHECK.same("no hole after going", box.viewer(1, 4), -1);
        box.pass(50);
        CHECK.same("who went stays so", box.viewer(1, 3), 3);
    }

    /** "no hole (free or not)" */
    private static void tickTwoFreeOrNot() {
        PeepBox box = Check.loaded("box 1 1 1;hole 0 0;hole 0 0;price 5+hole*5;length 4;"
                + "viewer 0 a 5;viewer 0 a 5;viewer 0 a 4;");
        box.pass(1);
        CHECK.same("who waits for the hole that is taken", box.viewer(1, 3), 0);
        CHECK.same("a hole too dear stays free", box.hole(1, 2), -1);
        CHECK.same("who went although a hole is free", box.viewer(2, 3), 3);
        box.pass(4);
        CHECK.same("the hole's next", box.hole(0, 2), 1);
    }

    /** "if one of these holes is free (also since (1))" */
    private static void tickTwoFreeSinceTickOne() {
        PeepBox box = Check.loaded("box 1 1 1;price 1;length 1;viewer 0 a 1;viewer 0 a 1;viewer 0 a 1;");
        for (int tick = 0; tick < 3; tick++) {
            CHECK.same("coins of tick " + tick, box.pass(1), tick == 0 ? 0 : 1);
            CHECK.same("who looks in tick " + tick, box.hole(0, 2), tick);
        }
    }

    /** "the free one of them that shows the wish most often, of several the one with the smallest index" */
    private static void tickTwoMostOften() {
        PeepBox box = Check.loaded("box 3 1 2;plane c..;plane bbb;hole 0 0;hole 2 0;hole 2 0;price 0;length 9;"
                + "viewer 0 b 0;viewer 0 b 0;viewer 0 b 0;");
        box.pass(1);
        int[] due = {1, 2, 0};
        for (int viewer = 0; viewer < 3; viewer++) {
            CHECK.same("hole of " + viewer, box.viewer(viewer, 4), due[viewer]);
        }
        PeepBox most = Check.loaded("box 3 1 2;plane c..;plane bbb;hole 2 0;hole 0 0;price 0;viewer 0 b 0;");
        most.pass(1);
        CHECK.same("the first shows it most often", most.viewer(0, 4), 0);
        PeepBox none = Check.loaded("box 1 1 1;hole 0 0;hole 0 0;hole 0 0;hole 0 0;price 0;viewer 0 z 0;");
        none.pass(1);
        CHECK.same("a wish that no hole shows", none.viewer(0, 4), 0);
        PeepBox dear = Check.loaded("box 3 1 2;plane c..;plane bbb;hole 0 0;hole 2 0;price shown;viewer 0 b 2;");
        dear.pass(1);
        CHECK.same("the one that shows most is too dear", dear.viewer(0, 4), 0);
        PeepBox high = Check.loaded("box 1 2 1;plane b b;hole 0 0;hole 0 1;reach 0;viewer 0 b 9;");
        high.pass(1);
        CHECK.same("the first cannot be used", high.viewer(0, 4), 1);
    }

    /** "the ticks that are left are the length then (they become smaller from the next tick on)" */
    private static void tickTwoTicksLeft() {
        PeepBox box = Check.loaded("box 1 1 1;price 0;length 1;viewer 0 a 0;viewer 0 a 0;");
        box.length(20);
        box.pass(1);
        CHECK.same("ticks left at once", box.viewer(0, 5), 20);
        box.length(1);
        box.pass(1);
        CHECK.same("ticks left next", box.viewer(0, 5), 19);
        box.pass(18);
        CHECK.same("ticks left", box.viewer(0, 5), 1);
        box.pass(1);
        CHECK.same("ticks of the next look", box.viewer(1, 5), 1);
        CHECK.same("it looks", box.viewer(1, 3), 1);
    }

    /** "Otherwise the viewer goes on waiting." */
    private static void tickTwoGoesOnWaiting() {
        PeepBox box = Check.loaded("box 1 1 1;price 3;length 20;viewer 0 a 3;viewer 0 a 3;");
        for (int tick = 1; tick <= 20; tick++) {
            box.pass(1);
            CHECK.same("waits in tick " + tick, box.viewer(1, 3), 0);
        }
        box.pass(1);
        CHECK.same("looks in tick 21", box.viewer(1, 3), 1);
        PeepBox dearer = Check.loaded("box 1 1 2;plane b;plane c;price shown*5;viewer 0 b 5;viewer 0 c 3;");
        dearer.pass(1);
        CHECK.same("waits", dearer.viewer(1, 3), 0);
        dearer.pull(0, 1);
        dearer.pass(1);
        CHECK.same("goes when it has become too dear", dearer.viewer(1, 3), 3);
    }

    /** "For each viewer who waits, by rising indexes" */
    private static void tickTwoByRisingIndexes() {
        PeepBox box = Check.loaded("box 1 1 1;hole 0 0;hole 0 0;price 0;length 2;" + "viewer 0 a 0;".repeat(5));
        int[][] due = {{0, 1}, {0, 1}, {2, 3}, {2, 3}, {4, -1}};
        for (int tick = 0; tick < due.length; tick++) {
            box.pass(1);
            CHECK.same("hole 0 in tick " + tick, box.hole(0, 2), due[tick][0]);
            CHECK.same("hole 1 in tick " + tick, box.hole(1, 2), due[tick][1]);
        }
    }

    /** "The time becomes greater by 1." */
    private static void tickThreeTime() {
        PeepBox box = new PeepBox();
        for (int ticks = 1; ticks <= 50; ticks++) {
            box.pass(ticks);
            CHECK.same("time", box.state(6), ticks * (ticks + 1) / 2);
        }
        box.foretold(100, 0);
        box.emptyIn();
        CHECK.same("time when only foretold", box.state(6), 1275);
    }
}
