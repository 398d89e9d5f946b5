/** Promises 1 to 17: each sentence that names a boundary case has a test of its own here, with the sentence above it. */
final class AskEdgeTest {
    private static final Check CHECK = new Check("AskEdgeTest");
    private static final int LEAST = Integer.MIN_VALUE;
    private static final int MOST = Integer.MAX_VALUE;
    private static final int BLANKS = 0x20202020;

    public static void main(String[] args) {
        newObject();
        emptyBuffer();
        appendTakesBytes();
        appendReturnsLength();
        appendBeyond800();
        loadFirstBytes();
        loadReplacesAll();
        loadEmptiesTheBuffer();
        loadErrorLeavesData();
        loadEmptyText();
        loadReturns();
        loadThrows();
        errorOffset();
        errorOffsetWithoutLoad();
        stateThrows();
        stateFreshAndFull();
        standsOpen();
        standsThrows();
        planeFacts();
        planeThrows();
        holeNobody();
        holeKindsAndDepth();
        holeThrows();
        seesThrows();
        shownNoneAndAll();
        shownThrows();
        whyFour();
        whyThrows();
        viewerNoHole();
        viewerStates();
        viewerThrows();
        priceOfWhoCannotUse();
        priceOfWhoIsGone();
        priceThrows();
        bestPullNoneToHeight();
        bestPullSmallest();
        bestPullOfTheBack();
        bestPullAllElse();
        bestPullAllHoles();
        bestPullThrows();
        foretoldOneToHundred();
        foretoldThoseOfNow();
        foretoldThrows();
        emptyInZero();
        emptyInTicks();
        meanPaidNoneLeft();
        meanPaidAsFloat();
        CHECK.finish();
    }

    private static int blanks(PeepBox box) {
        return box.append(BLANKS, BLANKS, BLANKS, BLANKS, BLANKS);
    }

    /** "Creates an object as by the text "box 4 3 2;"" and "Before the first successful load all is as by" it */
    private static void newObject() {
        PeepBox box = new PeepBox();
        PeepBox loaded = Check.loaded("box 4 3 2;");
        CHECK.same("checksum", box.checksum(), loaded.checksum());
        Check.load(box, "box 5 5 5");
        CHECK.same("checksum after a load that failed", box.checksum(), loaded.checksum());
        for (int y = 0; y < 3; y++) {
            for (int x = 0; x < 4; x++) {
                CHECK.same("foremost", box.stands(0, x, y), -1);
                CHECK.same("back", box.stands(1, x, y), 0);
                CHECK.same("sees", box.sees(0, x, y), 100);
            }
        }
        CHECK.same("pull of a new box", box.pull(0, 3), 0);
        CHECK.same("come to a new box", box.come(0, 0, 13), 0);
        CHECK.same("price in a new box", box.price(0, 0), 13);
        CHECK.same("length of a new box", box.length(3), 3);
        CHECK.same("emptyIn of a new box", box.emptyIn(), 4);
    }

    /** "with an empty input buffer" */
    private static void emptyBuffer() {
        PeepBox box = new PeepBox();
        CHECK.illegal("load(1)", () -> box.load(1));
        CHECK.same("load(0)", box.load(0), PeepBox.SYNTAX_ERROR);
        CHECK.same("append", new PeepBox().append(0, 0, 0, 0, 0), 20);
    }

    /** "Appends 20 bytes to the input buffer: the 4 bytes of each argument, the most significant byte first." */
    private static void appendTakesBytes() {
        PeepBox box = new PeepBox();
        box.append(0x626f7820, 0x31322038, 0x20353b70, 0x6c616e65, 0x20616263);
        box.append(0x64656667, 0x68696a6b, 0x6c2e2e2e, 0x2e2e2e2e, 0x2e2e2e2e);
        CHECK.same("load(40)", box.load(40), PeepBox.WRONG_LINE);
        CHECK.same("errorOffset", box.errorOffset(), 17);
        box.append(0x626f7820, 0x31322031, 0x20313b70, 0x6c616e65, 0x20616263);
        box.append(0x64656667, 0x68696a6b, 0x6c3b2020, BLANKS, BLANKS);
        CHECK.same("load(40)", box.load(40), 0);
        for (int x = 0; x < 12; x++) {
            CHECK.same("stands(0, " + x + ", 0)", box.stands(0, x, 0), x);
        }
        box.append(0x626f7820, 0x31203120, 0x313b2020, 0x20202020, 0xff000000);
        CHECK.same("load of a byte 255", box.load(17), PeepBox.SYNTAX_ERROR);
        CHECK.same("its offset", box.errorOffset(), 16);
        box.append(-1, 0, 0, 0, 0);
        CHECK.same("load of bytes 255", box.load(20), PeepBox.SYNTAX_ERROR);
        CHECK.same("their offset", box.errorOffset(), 0);
    }

    /** "Returns the new length of the buffer" */
    private static void appendReturnsLength() {
        PeepBox box = new PeepBox();
        for (int length = 20; length <= 800; length += 20) {
            CHECK.same("append", box.append(LEAST, MOST, 0, -1, 1), length);
        }
    }

    /** "-1 if it would exceed 800 bytes, and the buffer is unchanged then" */
    private static void appendBeyond800() {
        PeepBox box = new PeepBox();
        Check.append(box, "box 7 6 5;");
        while (blanks(box) < 780) {
            CHECK.same("nothing is loaded", box.state(6), 0);
        }
        CHECK.same("append to 800", blanks(box), 800);
        CHECK.same("append to 820", box.append(0x78787878, 0, 0, 0, 0), -1);
        CHECK.same("append to 820 again", box.append(0x78787878, 0, 0, 0, 0), -1);
        CHECK.illegal("load(801)", () -> box.load(801));
        CHECK.illegal("load(820)", () -> box.load(820));
        CHECK.same("load(800)", box.load(800), 0);
        CHECK.same("width", box.state(0), 7);
        CHECK.same("append after load", blanks(box), 20);
    }

    /** "Reads the first bytes of the input buffer as a setup text" */
    private static void loadFirstBytes() {
        PeepBox box = new PeepBox();
        Check.append(box, "box 5 1 1;x");
        CHECK.same("load(10) ahead of an x", box.load(10), 0);
        CHECK.same("width", box.state(0), 5);
        Check.append(box, "box 6 1 1;x");
        CHECK.same("load(11) with the x", box.load(11), PeepBox.SYNTAX_ERROR);
        CHECK.same("its offset", box.errorOffset(), 10);
        Check.append(box, "box 7 1 1;x");
        CHECK.same("load(9) without the ;", box.load(9), PeepBox.SYNTAX_ERROR);
        CHECK.same("its offset", box.errorOffset(), 9);
        CHECK.same("width", box.state(0), 5);
        String[][] cuts = {{"box 1 1 1", "2;"}, {"box 1 1 1;plane a", "b;"}, {"box 1 1 1;plane a", ".;"},
            {"box 1 1 1;viewer 1 a", "b 1;"}, {"box 1 1 1;reach", "es 1;"}, {"box 1 1 1;price shown", "n;"},
            {"box 1 1 1;price 9999", "9;"}, {"box 1 1 1;price 1", ";"}};
        for (String[] cut : cuts) {
            Check.append(box, cut[0] + cut[1]);
            CHECK.same("load of " + cut[0] + " ahead of " + cut[1], box.load(cut[0].length()), PeepBox.SYNTAX_ERROR);
            CHECK.same("its offset", box.errorOffset(), cut[0].length());
        }
    }

    /** "replaces all data by it; the time is 0, and no plane is pulled" */
    private static void loadReplacesAll() {
        PeepBox box = Check.loaded("box 3 3 3;plane bbb bbb bbb;plane ccc ccc ccc;hole 1 1;hole 2 2;reach 4;length 7;"
                + "viewer 1 b 99;viewer 1 b 0;viewer 1 b 99;viewer 1 b 99;price 11;");
        box.pull(0, 3);
        box.pull(1, 2);
        box.pass(50);
        box.come(1, 1, 1);
        CHECK.same("load", Check.load(box, "box 3 3 3;"), 0);
        CHECK.same("time", box.state(6), 0);
        CHECK.same("pull of 0", box.plane(0, 0), 0);
        CHECK.same("pull of 1", box.plane(1, 0), 0);
        CHECK.same("all", box.checksum(), Check.loaded("box 3 3 3;").checksum());
        box.come(2, 0, 999);
        CHECK.same("price", box.price(0, 0), 10);
        String full = "box 1 1 1;plane b;hole 0 0;hole 0 0;hole 0 0;hole 0 0;reach 1;length 1;price 1;";
        for (int i = 0; i < 3; i++) {
            CHECK.same("what may occur once may so in each text", Check.load(box, full), 0);
            CHECK.same("holes", box.state(3), 4);
        }
    }

    /** "The input buffer is empty afterwards, also if the text has an error." */
    private static void loadEmptiesTheBuffer() {
        PeepBox box = new PeepBox();
        Check.append(box, "box 1 1 1;           box 2 2 2;           ");
        CHECK.same("load", box.load(10), 0);
        CHECK.illegal("load of what was behind", () -> box.load(1));
        CHECK.same("append", Check.append(box, "box"), 20);
        CHECK.same("load", box.load(3), PeepBox.SYNTAX_ERROR);
        CHECK.illegal("load after an error", () -> box.load(1));
        CHECK.same("append", blanks(box), 20);
        CHECK.same("load(0)", box.load(0), PeepBox.SYNTAX_ERROR);
        CHECK.same("append after load(0)", blanks(box), 20);
    }

    /** "An error leaves all other data unchanged." */
    private static void loadErrorLeavesData() {
        PeepBox box = Check.loaded("box 2 2 2;plane b. .b;hole 1 1;reach 5;length 2;price 4;viewer 1 a 9;viewer 1 b 9;");
        box.pull(0, 1);
        box.pass(1);
        long before = box.checksum();
        String[] wrong = {"", "box 1 1 1", "box 1 1 1;price 9;viewer 1 a 1;x", "box 2 2 2;plane cc cc;plane dd d.;",
            "box 3 3 3;hole 2 2;hole 3 3;", "box 1 1 1;length 9;reach 0;length 1;", "box 1 1 1;price ((((("};
        for (String text : wrong) {
            CHECK.same("load of " + text, Check.load(box, text) < 0 ? 1 : 0, 1);
            CHECK.same("checksum after " + text, box.checksum(), before);
            CHECK.same("price after " + text, box.price(0, 0), 4);
            CHECK.same("stands after " + text, box.stands(0, 1, 0), 1);
            CHECK.same("below after " + text, box.stands(0, 1, 1), -1);
        }
        CHECK.same("none of them is a change", box.undo(), 2);
    }

    /** "An empty text has a SYNTAX_ERROR." */
    private static void loadEmptyText() {
        PeepBox box = new PeepBox();
        CHECK.same("load(0)", box.load(0), PeepBox.SYNTAX_ERROR);
        CHECK.same("errorOffset", box.errorOffset(), 0);
        Check.append(box, "box 1 1 1;");
        CHECK.same("load(0) of a buffer that is not empty", box.load(0), PeepBox.SYNTAX_ERROR);
        CHECK.same("errorOffset", box.errorOffset(), 0);
        CHECK.illegal("the buffer is empty", () -> box.load(1));
    }

    /** "Returns the number of viewers; or the error code of the first error." */
    private static void loadReturns() {
        for (int viewers = 0; viewers <= 20; viewers++) {
            CHECK.good(viewers, "box 1 1 1;" + "viewer 1 a 1;".repeat(viewers));
        }
        CHECK.bad(-2, "box 1 1 1;^x");
        CHECK.bad(-3, "box 1 1 ^6;");
        CHECK.bad(-4, "box 1 1 1;plane ^aa;");
        CHECK.bad(-5, "box 1 1 1;plane a;^plane a;");
        CHECK.bad(-6, "box 1 1 1;price ((((^(1)))));");
    }

    /** "if length is negative or greater than the length of the buffer; the buffer is unchanged then" */
    private static void loadThrows() {
        PeepBox box = new PeepBox();
        Check.append(box, "box 9 1 1;");
        for (int wrong : new int[] {-1, LEAST, 21, 800, 801, MOST}) {
            CHECK.illegal("load(" + wrong + ")", () -> box.load(wrong));
        }
        CHECK.same("errorOffset", box.errorOffset(), -1);
        CHECK.same("load(20)", box.load(20), 0);
        CHECK.same("width", box.state(0), 9);
        CHECK.same("append after it", blanks(box), 20);
        CHECK.illegal("load(21)", () -> box.load(21));
        CHECK.same("append after load(21)", blanks(box), 40);
    }

    /** "Returns the offset of the error found by the latest call of load that did not throw" */
    private static void errorOffset() {
        PeepBox box = new PeepBox();
        Check.load(box, "box 1 1 1;x");
        CHECK.same("errorOffset", box.errorOffset(), 10);
        CHECK.illegal("load(-1)", () -> box.load(-1));
        CHECK.same("errorOffset after a load that threw", box.errorOffset(), 10);
        Check.load(box, "x");
        CHECK.same("errorOffset of the latest", box.errorOffset(), 0);
        Check.load(box, "box 1 1 1;" + " ".repeat(789) + "x");
        CHECK.same("errorOffset at the end", box.errorOffset(), 799);
        Check.load(box, "box 1 1 1" + " ".repeat(791));
        CHECK.same("errorOffset of the longest text that ends too early", box.errorOffset(), 800);
        box.pass(1);
        box.append(0, 0, 0, 0, 0);
        CHECK.same("errorOffset after other calls", box.errorOffset(), 800);
    }

    /** "-1 if it found none or if there was no such call" */
    private static void errorOffsetWithoutLoad() {
        PeepBox box = new PeepBox();
        CHECK.same("errorOffset of a new object", box.errorOffset(), -1);
        CHECK.illegal("load(1)", () -> box.load(1));
        CHECK.same("errorOffset after a load that threw", box.errorOffset(), -1);
        Check.load(box, "x");
        Check.load(box, "box 1 1 1;");
        CHECK.same("errorOffset after a load without error", box.errorOffset(), -1);
    }

    /** "state: Throws IllegalArgumentException if what is out of range" (0 to 13) */
    private static void stateThrows() {
        PeepBox box = new PeepBox();
        for (int wrong : new int[] {-1, 14, LEAST, MOST}) {
            CHECK.illegal("state(" + wrong + ")", () -> box.state(wrong));
        }
        CHECK.same("state(0)", box.state(0), 4);
        CHECK.same("state(13)", box.state(13), 1);
    }

    /** "0 the width, 1 the height, ... 13 free holes": of an empty box, and with all holes taken and 20 viewers */
    private static void stateFreshAndFull() {
        int[] fresh = {4, 3, 2, 1, 9, 3, 0, 0, 0, 0, 0, 0, 0, 1};
        PeepBox box = new PeepBox();
        PeepBox full = Check.loaded("box 12 8 5;" + "hole 0 0;".repeat(4) + "price 999;length 20;reach 9;"
                + "viewer 0 a 998;".repeat(7) + "viewer 9 z 999;".repeat(13));
        full.pass(21);
        int[] due = {12, 8, 5, 4, 9, 20, 21, 20, 5, 4, 4, 7, 3996, 0};
        for (int what = 0; what < 14; what++) {
            CHECK.same("fresh state(" + what + ")", box.state(what), fresh[what]);
            CHECK.same("full state(" + what + ")", full.state(what), due[what]);
        }
    }

    /** "Returns the kind that stands there now; -1 if it is open." */
    private static void standsOpen() {
        PeepBox box = Check.loaded("box 2 2 2;plane .a z.;");
        int[] due = {-1, 0, 25, -1};
        for (int i = 0; i < 4; i++) {
            CHECK.same("stands " + i, box.stands(0, i % 2, i / 2), due[i]);
        }
        box.pull(0, 1);
        int[] pulled = {25, -1, -1, -1};
        for (int i = 0; i < 4; i++) {
            CHECK.same("stands " + i + " now", box.stands(0, i % 2, i / 2), pulled[i]);
        }
    }

    /** "stands: Throws IndexOutOfBoundsException if there is no such plane or cell" */
    private static void standsThrows() {
        PeepBox box = Check.loaded("box 3 2 4;");
        CHECK.same("the last cell", box.stands(3, 2, 1), 0);
        for (int wrong : new int[] {-1, 4, LEAST, MOST}) {
            CHECK.outside("stands plane " + wrong, () -> box.stands(wrong, 0, 0));
            CHECK.outside("stands x " + wrong, () -> box.stands(0, wrong, 0));
            CHECK.outside("stands y " + wrong, () -> box.stands(0, 0, wrong));
        }
        CHECK.outside("stands x 3", () -> box.stands(3, 3, 1));
        CHECK.outside("stands y 2", () -> box.stands(3, 2, 2));
    }

    /** "0 by how many rows it is pulled up, 1 how many cells with a kind stand ..., 2 how many targets ... see" it */
    private static void planeFacts() {
        PeepBox box = Check.loaded("box 2 2 2;plane bb b.;hole 0 0;hole 0 0;hole 1 1;hole 1 0;");
        int[][][] due = {{{0, 3, 12}, {0, 4, 4}}, {{1, 1, 8}, {0, 4, 8}}, {{2, 0, 0}, {0, 4, 16}}};
        for (int rows = 0; rows <= 2; rows++) {
            box.pull(0, rows);
            for (int plane = 0; plane < 2; plane++) {
                for (int what = 0; what < 3; what++) {
                    CHECK.same("plane(" + plane + ", " + what + ") at " + rows, box.plane(plane, what),
                            due[rows][plane][what]);
                }
            }
        }
        PeepBox one = Check.loaded("box 12 8 1;hole 0 0;hole 0 0;hole 0 0;hole 0 0;");
        CHECK.same("each hole by itself", one.plane(0, 2), 384);
    }

    /** "plane: Throws IndexOutOfBoundsException if ..., IllegalArgumentException if what is out of range" (0 to 2) */
    private static void planeThrows() {
        PeepBox box = Check.loaded("box 1 1 2;");
        for (int wrong : new int[] {-1, 2, 5, LEAST, MOST}) {
            CHECK.outside("plane(" + wrong + ", 0)", () -> box.plane(wrong, 0));
            CHECK.outside("plane(" + wrong + ", 3)", () -> box.plane(wrong, 3));
        }
        for (int wrong : new int[] {-1, 3, LEAST, MOST}) {
            CHECK.illegal("plane(1, " + wrong + ")", () -> box.plane(1, wrong));
        }
        CHECK.same("plane(1, 2)", box.plane(1, 2), 1);
    }

    /** "2 the viewer who looks through it (-1 if it is free)" */
    private static void holeNobody() {
        PeepBox box = Check.loaded("box 1 1 1;hole 0 0;hole 0 0;price 0;length 1;" + "viewer 0 a 0;".repeat(20));
        CHECK.same("hole(0, 2)", box.hole(0, 2), -1);
        for (int tick = 0; tick < 10; tick++) {
            box.pass(1);
            CHECK.same("hole(0, 2)", box.hole(0, 2), 2 * tick);
            CHECK.same("hole(1, 2)", box.hole(1, 2), 2 * tick + 1);
        }
        box.pass(1);
        CHECK.same("hole(0, 2)", box.hole(0, 2), -1);
        CHECK.same("hole(1, 2)", box.hole(1, 2), -1);
    }

    /** "3 how many different kinds are seen, 4 depth": of one, and of as many as there are */
    private static void holeKindsAndDepth() {
        PeepBox box = Check.loaded("box 12 8 1;plane abcdefghijkl mnopqrstuvwx yz" + "a".repeat(10)
                + " aaaaaaaaaaaa".repeat(5) + ";hole 0 0;hole 11 7;");
        CHECK.same("all kinds", box.hole(0, 3), 26);
        CHECK.same("all kinds by the last hole", box.hole(1, 3), 26);
        CHECK.same("depth of the plane 0", box.hole(1, 4), 1);
        for (char kind = 'a'; kind <= 'z'; kind++) {
            PeepBox one = Check.loaded("box 2 1 5;plane ..;plane ..;plane ..;plane ..;plane " + kind + kind + ";");
            CHECK.same("one kind, " + kind, one.hole(0, 3), 1);
            CHECK.same("depth of the plane 4", one.hole(0, 4), 5);
        }
    }

    /** "hole: Throws IndexOutOfBoundsException if ..., IllegalArgumentException if what is out of range" (0 to 4) */
    private static void holeThrows() {
        PeepBox box = Check.loaded("box 1 1 1;hole 0 0;hole 0 0;");
        for (int wrong : new int[] {-1, 2, 4, LEAST, MOST}) {
            CHECK.outside("hole(" + wrong + ", 0)", () -> box.hole(wrong, 0));
            CHECK.outside("hole(" + wrong + ", 5)", () -> box.hole(wrong, 5));
        }
        for (int wrong : new int[] {-1, 5, LEAST, MOST}) {
            CHECK.illegal("hole(1, " + wrong + ")", () -> box.hole(1, wrong));
        }
        CHECK.same("hole(1, 4)", box.hole(1, 4), 1);
    }

    /** "sees: Throws IndexOutOfBoundsException if there is no such hole or target" */
    private static void seesThrows() {
        PeepBox box = Check.loaded("box 3 2 4;hole 0 0;hole 0 0;");
        CHECK.same("the last target", box.sees(1, 2, 1), 300);
        for (int wrong : new int[] {-1, 3, 4, LEAST, MOST}) {
            CHECK.outside("sees hole " + wrong, () -> box.sees(wrong, 0, 0));
            CHECK.outside("sees x " + wrong, () -> box.sees(0, wrong, 0));
            CHECK.outside("sees y " + wrong, () -> box.sees(0, 0, wrong));
        }
        CHECK.outside("sees hole 2", () -> box.sees(2, 0, 0));
        CHECK.outside("sees y 2", () -> box.sees(0, 0, 2));
    }

    /** "Returns how many targets show this kind.": none, and all */
    private static void shownNoneAndAll() {
        PeepBox box = Check.loaded("box 12 8 2;plane" + " zzzzzzzzzzzz".repeat(8) + ";hole 5 5;hole 0 0;");
        for (int kind = 0; kind < 26; kind++) {
            CHECK.same("shown(1, " + kind + ")", box.shown(1, kind), kind == 25 ? 96 : 0);
        }
        box.pull(0, 8);
        CHECK.same("shown(0, z)", box.shown(0, 25), 0);
        CHECK.same("shown(0, a)", box.shown(0, 0), 96);
    }

    /** "shown: Throws IndexOutOfBoundsException if ..., IllegalArgumentException if kind is out of range" */
    private static void shownThrows() {
        PeepBox box = Check.loaded("box 1 1 1;hole 0 0;hole 0 0;");
        for (int wrong : new int[] {-1, 2, 4, LEAST, MOST}) {
            CHECK.outside("shown(" + wrong + ", 0)", () -> box.shown(wrong, 0));
            CHECK.outside("shown(" + wrong + ", 26)", () -> box.shown(wrong, 26));
        }
        for (int wrong : new int[] {-1, 26, LEAST, MOST}) {
            CHECK.illegal("shown(1, " + wrong + ")", () -> box.shown(1, wrong));
        }
    }

    /** "0 if it is seen, 1 if it is open now, 2 if no target's look crosses the plane at it, otherwise 3" */
    private static void whyFour() {
        int[][] behindOpen = {{1, 1, 1, 1}, {0, 1, 0, 2}, {3, 3, 0, 3}};
        whyOfAll(Check.loaded("box 4 1 3;plane ....;plane c.cc;plane efgh;"), behindOpen);
        whyOfAll(Check.loaded("box 1 4 3;plane . . . .;plane c . c c;plane e f g h;"), behindOpen);
        int[][] behindKinds = {{0, 0, 1, 2}, {3, 1, 3, 1}, {3, 3, 3, 3}};
        whyOfAll(Check.loaded("box 4 1 3;plane bb.b;plane c.c.;plane efgh;"), behindKinds);
        whyOfAll(Check.loaded("box 1 4 3;plane b b . b;plane c . c .;plane e f g h;"), behindKinds);
        PeepBox box = Check.loaded("box 4 1 3;plane bb.b;plane c.c.;plane efgh;hole 0 0;");
        box.pull(0, 1);
        whyOfAll(box, new int[][] {{1, 1, 1, 1}, {0, 1, 0, 1}, {3, 3, 0, 3}});
        box.pull(1, 1);
        whyOfAll(box, new int[][] {{1, 1, 1, 1}, {1, 1, 1, 1}, {0, 0, 0, 0}});
        box.pull(0, 0);
        whyOfAll(box, new int[][] {{0, 0, 1, 2}, {1, 1, 1, 1}, {3, 3, 3, 3}});
    }

    /** From the one end they cross plane 0 at 0, 0, 0, 1 and plane 1 at 0, 0, 1, 2, across as well as down. */
    private static void whyOfAll(PeepBox box, int[][] due) {
        boolean down = box.state(0) == 1;
        for (int plane = 0; plane < due.length; plane++) {
            for (int i = 0; i < due[plane].length; i++) {
                CHECK.same("why of " + i + " of plane " + plane, box.why(0, plane, down ? 0 : i, down ? i : 0),
                        due[plane][i]);
            }
        }
    }

    /** "why: Throws IndexOutOfBoundsException if there is no such hole, plane or cell" */
    private static void whyThrows() {
        PeepBox box = Check.loaded("box 4 3 5;hole 0 0;hole 0 0;");
        CHECK.same("the last cell", box.why(1, 4, 3, 2), 0);
        for (int wrong : new int[] {-1, 5, LEAST, MOST}) {
            CHECK.outside("why hole " + wrong, () -> box.why(wrong, 0, 0, 0));
            CHECK.outside("why plane " + wrong, () -> box.why(0, wrong, 0, 0));
            CHECK.outside("why x " + wrong, () -> box.why(0, 0, wrong, 0));
            CHECK.outside("why y " + wrong, () -> box.why(0, 0, 0, wrong));
        }
        CHECK.outside("why hole 2", () -> box.why(2, 4, 3, 2));
        CHECK.outside("why x 4", () -> box.why(1, 4, 4, 2));
        CHECK.outside("why y 3", () -> box.why(1, 4, 3, 3));
    }

    /** "4 the hole (-1 if the viewer does not look), 5 the ticks that are left (0 if the viewer does not look)" */
    private static void viewerNoHole() {
        PeepBox box = Check.loaded("box 1 1 1;price 2;length 4;viewer 0 a 2;viewer 0 a 2;viewer 0 a 1;");
        int[][][] due = {{{-1, 0}, {-1, 0}, {-1, 0}}, {{0, 4}, {-1, 0}, {-1, 0}}, {{-1, 0}, {0, 4}, {-1, 0}},
            {{-1, 0}, {-1, 0}, {-1, 0}}};
        for (int step = 0; step < due.length; step++) {
            for (int viewer = 0; viewer < 3; viewer++) {
                CHECK.same("hole of " + viewer + " in step " + step, box.viewer(viewer, 4), due[step][viewer][0]);
                CHECK.same("ticks of " + viewer + " in step " + step, box.viewer(viewer, 5), due[step][viewer][1]);
            }
            box.pass(step == 0 ? 1 : 4);
        }
    }

    /** "3 0 waits, 1 looks, 2 left, 3 went without a look" and "6 what the viewer paid" */
    private static void viewerStates() {
        PeepBox box = Check.loaded("box 1 1 1;price 2;length 1;viewer 0 a 2;viewer 0 a 9;viewer 0 a 1;");
        int[][][] due = {{{0, 2, 0}, {0, 9, 0}, {0, 1, 0}}, {{1, 2, 0}, {0, 9, 0}, {3, 1, 0}},
            {{2, 0, 2}, {1, 9, 0}, {3, 1, 0}}, {{2, 0, 2}, {2, 7, 2}, {3, 1, 0}}};
        for (int step = 0; step < due.length; step++) {
            for (int viewer = 0; viewer < 3; viewer++) {
                CHECK.same("state of " + viewer + " in step " + step, box.viewer(viewer, 3), due[step][viewer][0]);
                CHECK.same("coins of " + viewer + " in step " + step, box.viewer(viewer, 2), due[step][viewer][1]);
                CHECK.same("paid by " + viewer + " in step " + step, box.viewer(viewer, 6), due[step][viewer][2]);
            }
            box.pass(1);
        }
    }

    /** "viewer: Throws IndexOutOfBoundsException if ..., IllegalArgumentException if what is out of range" (0 to 6) */
    private static void viewerThrows() {
        PeepBox none = new PeepBox();
        CHECK.outside("viewer(0, 0) of none", () -> none.viewer(0, 0));
        PeepBox box = Check.loaded("box 1 1 1;viewer 1 a 1;viewer 2 a 1;");
        for (int wrong : new int[] {-1, 2, 20, LEAST, MOST}) {
            CHECK.outside("viewer(" + wrong + ", 0)", () -> box.viewer(wrong, 0));
            CHECK.outside("viewer(" + wrong + ", 7)", () -> box.viewer(wrong, 7));
        }
        for (int wrong : new int[] {-1, 7, LEAST, MOST}) {
            CHECK.illegal("viewer(1, " + wrong + ")", () -> box.viewer(1, wrong));
        }
        box.come(3, 0, 0);
        box.undo();
        CHECK.outside("viewer(2, 0) whose coming is undone", () -> box.viewer(2, 0));
    }

    /** "-1 if the viewer cannot use the hole" */
    private static void priceOfWhoCannotUse() {
        PeepBox box = Check.loaded("box 1 3 1;hole 0 0;hole 0 2;reach 1;price 0;"
                + "viewer 0 a 0;viewer 1 a 0;viewer 2 a 0;viewer 3 a 0;viewer 4 a 0;");
        int[][] due = {{-1, 0}, {0, 0}, {0, -1}, {0, -1}, {-1, -1}};
        for (int viewer = 0; viewer < 5; viewer++) {
            CHECK.same("price(" + viewer + ", 0)", box.price(viewer, 0), due[viewer][0]);
            CHECK.same("price(" + viewer + ", 1)", box.price(viewer, 1), due[viewer][1]);
        }
    }

    /** "Returns the price of a look now (also of one who left or went)" */
    private static void priceOfWhoIsGone() {
        PeepBox box = Check.loaded("box 1 1 2;plane b;plane c;length 1;price 3+shown;viewer 0 b 4;viewer 0 b 3;");
        box.pass(2);
        CHECK.same("who left", box.viewer(0, 3), 2);
        CHECK.same("who went", box.viewer(1, 3), 3);
        CHECK.same("price of who left", box.price(0, 0), 4);
        CHECK.same("price of who went", box.price(1, 0), 4);
        box.pull(0, 1);
        CHECK.same("price of who left, now", box.price(0, 0), 3);
        CHECK.same("price of who went, now", box.price(1, 0), 3);
    }

    /** "price: Throws IndexOutOfBoundsException if there is no such viewer or hole" */
    private static void priceThrows() {
        PeepBox none = new PeepBox();
        CHECK.outside("price(0, 0) of none", () -> none.price(0, 0));
        PeepBox box = Check.loaded("box 1 1 1;hole 0 0;hole 0 0;viewer 1 a 1;viewer 1 a 1;viewer 1 a 1;");
        CHECK.same("price(2, 1)", box.price(2, 1), 2);
        for (int wrong : new int[] {-1, 3, 4, 20, LEAST, MOST}) {
            CHECK.outside("price(" + wrong + ", 0)", () -> box.price(wrong, 0));
            CHECK.outside("price(0, " + wrong + ")", () -> box.price(0, wrong));
        }
        CHECK.outside("price(2, 2)", () -> box.price(2, 2));
    }

    /** "Returns the pull (0 to the height) of this plane, with which ... show this kind most often" */
    private static void bestPullNoneToHeight() {
        for (int height = 1; height <= 8; height++) {
            PeepBox box = Check.loaded("box 1 " + height + " 2;plane" + " b".repeat(height) + ";plane"
                    + " c".repeat(height) + ";");
            CHECK.same("best pull for b of " + height, box.bestPull(0, 1), 0);
            CHECK.same("best pull for c of " + height, box.bestPull(0, 2), height);
            box.pull(0, height);
            CHECK.same("best pull for b when pulled", box.bestPull(0, 1), 0);
            CHECK.same("best pull for c when pulled", box.bestPull(0, 2), height);
        }
        PeepBox kinds = Check.loaded("box 1 8 1;hole 0 0;");
        CHECK.same("one plane is the back", kinds.bestPull(0, 0), 0);
        PeepBox rows = Check.loaded("box 1 8 5;plane b c d e f g h i;hole 0 0;");
        for (int kind = 1; kind <= 8; kind++) {
            CHECK.same("best pull for " + kind, rows.bestPull(0, kind), kind - 1);
        }
    }

    /** "of several the smallest one" */
    private static void bestPullSmallest() {
        PeepBox box = Check.loaded("box 1 4 2;plane b c b c;plane d d d d;hole 0 0;");
        CHECK.same("b is seen most often at two pulls", box.bestPull(0, 1), 0);
        PeepBox none = Check.loaded("box 1 4 2;plane b c b c;plane d d d d;hole 0 0;");
        none.pull(0, 3);
        CHECK.same("z is seen at none", none.bestPull(0, 25), 0);
        PeepBox open = Check.loaded("box 1 4 3;plane . . . .;plane b b b b;plane d d d d;hole 0 0;");
        open.pull(0, 4);
        CHECK.same("an open plane's pull does not matter", open.bestPull(0, 1), 0);
    }

    /** "0 for the back" */
    private static void bestPullOfTheBack() {
        PeepBox box = Check.loaded("box 1 3 3;plane b b b;plane c c c;plane d e f;");
        for (int kind = 0; kind < 26; kind++) {
            CHECK.same("bestPull(2, " + kind + ")", box.bestPull(2, kind), 0);
        }
    }

    /** "all else being as it is" and "the targets of all holes together show this kind (on any plane)" */
    private static void bestPullAllElse() {
        PeepBox box = Check.loaded("box 1 2 3;plane b c;plane c b;plane d b;hole 0 0;hole 0 1;");
        // Pull 0 shows b to the first hole twice; pull 2 shows what is behind.
        for (int first = 0; first <= 2; first++) {
            for (int second = 0; second <= 2; second++) {
                box.pull(0, first);
                box.pull(1, second);
                long before = box.checksum();
                for (int kind = 0; kind < 5; kind++) {
                    for (int plane = 0; plane < 2; plane++) {
                        CHECK.same("bestPull(" + plane + ", " + kind + ") at " + first + ", " + second,
                                box.bestPull(plane, kind), tried(first, second, plane, kind));
                    }
                }
                CHECK.same("it changes nothing", box.checksum(), before);
            }
        }
    }

    /** "the targets of all holes together": one hole alone would have another answer */
    private static void bestPullAllHoles() {
        PeepBox box = Check.loaded("box 1 4 2;plane b . c b;plane d d d d;hole 0 0;hole 0 3;hole 0 3;hole 0 3;");
        CHECK.same("b by the hole at the top and three below", box.bestPull(0, 1), 0);
        CHECK.same("c, for which the first hole alone would have 1", box.bestPull(0, 2), 0);
        CHECK.same("d by the hole at the top and three below", box.bestPull(0, 3), 4);
        PeepBox two = Check.loaded("box 1 4 2;plane c c . .;plane d d d d;hole 0 0;hole 0 3;");
        CHECK.same("d by the hole at the top", two.bestPull(0, 3), 2);
    }

    /** The best pull, found by pulling another box. */
    private static int tried(int first, int second, int plane, int kind) {
        PeepBox box = Check.loaded("box 1 2 3;plane b c;plane c b;plane d b;hole 0 0;hole 0 1;");
        box.pull(0, first);
        box.pull(1, second);
        int best = 0;
        int most = -1;
        for (int rows = 0; rows <= 2; rows++) {
            box.pull(plane, rows);
            int count = box.shown(0, kind) + box.shown(1, kind);
            best = count > most ? rows : best;
            most = Math.max(count, most);
        }
        return best;
    }

    /** "bestPull: Throws IndexOutOfBoundsException if ..., IllegalArgumentException if kind is out of range" */
    private static void bestPullThrows() {
        PeepBox box = Check.loaded("box 1 1 3;");
        for (int wrong : new int[] {-1, 3, 5, LEAST, MOST}) {
            CHECK.outside("bestPull(" + wrong + ", 0)", () -> box.bestPull(wrong, 0));
            CHECK.outside("bestPull(" + wrong + ", 26)", () -> box.bestPull(wrong, 26));
        }
        for (int wrong : new int[] {-1, 26, LEAST, MOST}) {
            for (int plane = 0; plane < 3; plane++) {
                int one = plane;
                CHECK.illegal("bestPull(" + plane + ", " + wrong + ")", () -> box.bestPull(one, wrong));
            }
        }
        CHECK.same("bestPull(1, 25)", box.bestPull(1, 25), 0);
    }

    /** "ticks: 1 to 100" */
    private static void foretoldOneToHundred() {
        PeepBox box = Check.loaded("box 1 1 1;price 7;length 19;" + "viewer 0 a 7;".repeat(8) + "viewer 0 a 6;");
        for (int ticks = 1; ticks <= 100; ticks++) {
            int left = (ticks - 1) / 19;
            CHECK.same("paid in " + ticks, box.foretold(ticks, 0), 7 * left);
            CHECK.same("who wait in " + ticks, box.foretold(ticks, 1), 7 - left);
            CHECK.same("who look in " + ticks, box.foretold(ticks, 2), 1);
            CHECK.same("who went in " + ticks, box.foretold(ticks, 3), 1);
        }
        CHECK.same("nothing came to pass", box.state(8), 9);
        CHECK.same("time", box.state(6), 0);
    }

    /** "0 all coins that are paid then (as state tells them: those of now, too)" */
    private static void foretoldThoseOfNow() {
        PeepBox box = Check.loaded("box 1 1 1;price 7;length 1;viewer 0 a 7;viewer 0 a 8;viewer 0 a 1;");
        box.pass(2);
        CHECK.same("paid now", box.state(12), 7);
        CHECK.same("paid then", box.foretold(1, 0), 14);
        CHECK.same("paid in 100", box.foretold(100, 0), 14);
        CHECK.same("who went before", box.foretold(1, 3), 1);
        box.pass(50);
        CHECK.same("paid when all are gone", box.foretold(100, 0), 14);
        CHECK.same("who wait when all are gone", box.foretold(100, 1), 0);
    }

    /** "foretold: Throws IllegalArgumentException if ticks or what is out of range" */
    private static void foretoldThrows() {
        PeepBox box = new PeepBox();
        for (int wrong : new int[] {0, -1, 101, LEAST, MOST}) {
            CHECK.illegal("foretold(" + wrong + ", 0)", () -> box.foretold(wrong, 0));
        }
        for (int wrong : new int[] {-1, 4, LEAST, MOST}) {
            CHECK.illegal("foretold(1, " + wrong + ")", () -> box.foretold(1, wrong));
            CHECK.illegal("foretold(0, " + wrong + ")", () -> box.foretold(0, wrong));
        }
        CHECK.same("foretold(1, 3)", box.foretold(1, 3), 0);
        CHECK.same("foretold(100, 3)", box.foretold(100, 3), 0);
    }

    /** "0 if nobody does" */
    private static void emptyInZero() {
        PeepBox box = new PeepBox();
        CHECK.same("emptyIn without viewers", box.emptyIn(), 0);
        box.come(0, 0, 0);
        CHECK.same("emptyIn of one who goes", box.emptyIn(), 1);
        box.pass(1);
        CHECK.same("emptyIn when all went", box.emptyIn(), 0);
        box.come(0, 0, 999);
        box.pass(4);
        CHECK.same("who left", box.state(10), 1);
        CHECK.same("emptyIn when all left", box.emptyIn(), 0);
    }

    /** "Returns the ticks until nobody waits or looks, if only ticks pass" */
    private static void emptyInTicks() {
        for (int viewers = 1; viewers <= 20; viewers++) {
            PeepBox box = Check.loaded("box 1 1 1;price 0;length 20;" + "viewer 0 a 0;".repeat(viewers));
            CHECK.same("emptyIn of " + viewers, box.emptyIn(), 20 * viewers + 1);
            CHECK.same("time", box.state(6), 0);
        }
        PeepBox looks = Check.loaded("box 1 1 1;price 0;length 20;viewer 0 a 0;");
        looks.pass(1);
        CHECK.same("emptyIn of one who looks", looks.emptyIn(), 20);
        looks.pass(19);
        CHECK.same("emptyIn of one whose look ends", looks.emptyIn(), 1);
        looks.pass(1);
        CHECK.same("emptyIn then", looks.emptyIn(), 0);
    }

    /** "0 if none left" */
    private static void meanPaidNoneLeft() {
        PeepBox box = Check.loaded("box 1 1 1;price 5;length 1;viewer 0 a 4;viewer 0 a 5;");
        CHECK.sameFloat("meanPaid", box.meanPaid(), 0f);
        box.pass(1);
        CHECK.sameFloat("meanPaid when one went and one looks", box.meanPaid(), 0f);
        CHECK.same("it is not -0", Float.floatToRawIntBits(box.meanPaid()), 0);
        box.pass(1);
        CHECK.sameFloat("meanPaid when one left", box.meanPaid(), 5f);
    }

    /** "all coins that were paid and the number of viewers who left, both converted to float and divided" */
    private static void meanPaidAsFloat() {
        for (int count = 1; count <= 20; count++) {
            PeepBox one = Check.loaded("box 1 1 2;plane b;plane c;price 100*shown;length 1;"
                    + "viewer 0 c 0;".repeat(count - 1) + "viewer 0 b 100;");
            one.pass(count + 1);
            CHECK.same("who left", one.state(10), count);
            CHECK.sameFloat("meanPaid of 100 by " + count, one.meanPaid(), 100f / count);
        }
    }
}
