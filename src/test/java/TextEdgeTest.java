/**
 * "Setup text": each sentence that names a boundary case has a test of its own here, with the sentence above it.
 * In a wrong text the byte ^ marks the error.
 */
final class TextEdgeTest {
    private static final Check CHECK = new Check("TextEdgeTest");
    private static final int SYNTAX = PeepBox.SYNTAX_ERROR;
    private static final int RANGE = PeepBox.OUT_OF_RANGE;
    private static final int LINE = PeepBox.WRONG_LINE;
    private static final int MANY = PeepBox.TOO_MANY;
    private static final int DEEP = PeepBox.TOO_DEEP;
    private static final String BOX = "box 2 2 2;";

    public static void main(String[] args) {
        bufferOf800();
        grammarOfSetup();
        grammarOfPrice();
        numbersOfAnyLength();
        runsOfLetters();
        runsAsLongAsPossible();
        wordEndsAtPoint();
        spacesAheadAndBehind();
        spacesBetween();
        noOtherByteSeparates();
        numbersOfBox();
        planesFromTheForemost();
        linesOfAPlane();
        planesThatAreNotTold();
        withoutHoles();
        withoutReachAndLength();
        numbersOfViewer();
        numbersInAPrice();
        onceEach();
        nestingOfFour();
        smallestOffset();
        firstInTheList();
        syntaxAtFirstByte();
        syntaxAtTheEnd();
        syntaxOfASecond();
        syntaxAheadOfTheLastLine();
        syntaxBehindTheLastLine();
        rangeAtFirstDigit();
        kindOfMoreLetters();
        lineTooShortOrTooLong();
        openCellInTheBack();
        planeTooMany();
        holeTooMany();
        viewerTooMany();
        tooDeep();
        CHECK.finish();
    }

    private static void holds(String text, int what, int due) {
        CHECK.same("state(" + what + ") of " + text, Check.loaded(text).state(what), due);
    }

    /** "The setup text is read from an input buffer of at most 800 bytes." */
    private static void bufferOf800() {
        String text = BOX + " ".repeat(800 - BOX.length() - 8) + "reach 5;";
        CHECK.good(0, text);
        holds(text, 4, 5);
        CHECK.bad(SYNTAX, BOX + " ".repeat(800 - BOX.length() - 7) + "reach 5^");
        String sum = "1" + "+1".repeat((800 - BOX.length() - 8) / 2);
        PeepBox box = Check.loaded(BOX + "price " + sum + ";");
        box.come(0, 0, 0);
        CHECK.same("a price of 800 bytes", box.price(0, 0), (sum.length() + 1) / 2);
    }

    /** "setup = "box" number number number ";" { statement ";" }" and "statement = ..." */
    private static void grammarOfSetup() {
        CHECK.good(0, BOX);
        CHECK.good(1, BOX + "viewer 1 a 1;hole 0 0;plane ab cd;price 1;length 1;reach 1;plane ab cd;");
        CHECK.bad(SYNTAX, "^reach 1;" + BOX);
        CHECK.bad(SYNTAX, "box 2 2^;");
        CHECK.bad(SYNTAX, "box 2 2 2 ^2;");
        CHECK.bad(SYNTAX, BOX + "^;");
        CHECK.bad(SYNTAX, BOX + "reach 1;^;");
        CHECK.bad(SYNTAX, BOX + "reach 1 ^length 1;");
        CHECK.bad(SYNTAX, BOX + "^" + BOX);
        CHECK.bad(SYNTAX, BOX + "plane^;");
        CHECK.bad(SYNTAX, BOX + "hole 0^;");
        CHECK.bad(SYNTAX, BOX + "hole 0 0 ^0;");
        CHECK.bad(SYNTAX, BOX + "reach^;");
        CHECK.bad(SYNTAX, BOX + "reach 1 ^1;");
        CHECK.bad(SYNTAX, BOX + "length^;");
        CHECK.bad(SYNTAX, BOX + "length 1 ^1;");
        CHECK.bad(SYNTAX, BOX + "viewer 1 a^;");
        CHECK.bad(SYNTAX, BOX + "viewer 1 a 1 ^1;");
        CHECK.bad(SYNTAX, BOX + "viewer ^a 1 1;");
        CHECK.bad(SYNTAX, BOX + "price^;");
    }

    /** "sum = term { ( "+" | "-" ) term }", "term = factor { ( "*" | "/" ) factor }", "factor = ..." */
    private static void grammarOfPrice() {
        CHECK.good(0, BOX + "price shown+kinds-depth*hole/1*(2);");
        CHECK.good(0, BOX + "price (shown);");
        CHECK.bad(SYNTAX, BOX + "price ^+1;");
        CHECK.bad(SYNTAX, BOX + "price ^-1;");
        CHECK.bad(SYNTAX, BOX + "price 1+^+1;");
        CHECK.bad(SYNTAX, BOX + "price 1*^-1;");
        CHECK.bad(SYNTAX, BOX + "price 1/^/1;");
        CHECK.bad(SYNTAX, BOX + "price 1+^;");
        CHECK.bad(SYNTAX, BOX + "price 1*^;");
        CHECK.bad(SYNTAX, BOX + "price (^);");
        CHECK.bad(SYNTAX, BOX + "price (1^;");
        CHECK.bad(SYNTAX, BOX + "price 1^);");
        CHECK.bad(SYNTAX, BOX + "price (1)^(1);");
        CHECK.bad(SYNTAX, BOX + "price 1 ^1;");
        CHECK.bad(SYNTAX, BOX + "price shown ^kinds;");
        CHECK.bad(SYNTAX, BOX + "price ^reach;");
        CHECK.bad(SYNTAX, BOX + "price ^holes;");
        CHECK.bad(SYNTAX, BOX + "price ^a;");
    }

    /** "A number is a run of decimal digits, of any length (leading zeros do not matter)" */
    private static void numbersOfAnyLength() {
        String zeros = "0".repeat(500);
        holds("box " + zeros + "12 8 5;", 0, 12);
        holds(BOX + "reach " + zeros + ";", 4, 0);
        holds(BOX + "length " + zeros + "20;", 5, 20);
        CHECK.good(0, BOX + "price " + zeros + "9999;");
        CHECK.bad(RANGE, BOX + "reach ^" + zeros + "10;");
        CHECK.bad(RANGE, BOX + "price ^" + zeros + "10000;");
        CHECK.bad(RANGE, BOX + "reach ^1" + zeros + ";");
        CHECK.bad(RANGE, BOX + "reach ^" + "9".repeat(700) + ";");
        String[] wrapping = {"4294967296", "4294967297", "8589934593", "18446744073709551616", "18446744073709551617",
            "2147483648", "9223372036854775808", "65536", "65537", "256", "257"};
        for (String number : wrapping) {
            CHECK.bad(RANGE, BOX + "reach ^" + number + ";");
            CHECK.bad(RANGE, BOX + "length ^" + number + ";");
        }
    }

    /** "a word and a kind are runs of the letters a to z; a line is a run of the letters a to z and of the byte ." */
    private static void runsOfLetters() {
        PeepBox box = Check.loaded("box 4 1 2;plane az.a;plane azaz;");
        CHECK.same("a line's z", box.stands(0, 1, 0), 25);
        CHECK.same("a line's point", box.stands(0, 2, 0), -1);
        CHECK.good(2, BOX + "viewer 1 a 1;viewer 1 z 1;");
        CHECK.bad(SYNTAX, BOX + "viewer 1 ^` 1;");
        CHECK.bad(SYNTAX, BOX + "viewer 1 ^{ 1;");
        CHECK.bad(SYNTAX, BOX + "viewer 1 ^A 1;");
        CHECK.bad(SYNTAX, BOX + "viewer 1 ^Z 1;");
        CHECK.bad(SYNTAX, BOX + "viewer 1 ^\u00e1 1;");
        CHECK.bad(SYNTAX, BOX + "viewer ^/ a 1;");
        CHECK.bad(SYNTAX, BOX + "viewer ^: a 1;");
        CHECK.bad(SYNTAX, BOX + "plane ^` aa;");
        CHECK.bad(SYNTAX, BOX + "plane ^{ aa;");
        CHECK.bad(SYNTAX, BOX + "plane ^- aa;");
        CHECK.bad(SYNTAX, BOX + "plane ^/ aa;");
        CHECK.bad(SYNTAX, BOX + "plane ^1 aa;");
        CHECK.bad(SYNTAX, BOX + "^Reach 1;");
        CHECK.bad(SYNTAX, BOX + "^.;");
    }

    /** "Each run is as long as possible" */
    private static void runsAsLongAsPossible() {
        CHECK.bad(SYNTAX, "^boxx 2 2 2;");
        CHECK.bad(SYNTAX, BOX + "^reachlength 1;");
        CHECK.bad(SYNTAX, BOX + "^planeaa aa;");
        CHECK.bad(SYNTAX, BOX + "price ^shownshown;");
        CHECK.bad(RANGE, "box ^22 2;");
        CHECK.bad(RANGE, BOX + "viewer 1 ^aa 1;");
        CHECK.bad(LINE, BOX + "plane ^aaaa;");
        CHECK.bad(LINE, BOX + "plane ^aa..;");
    }

    /** "(a word ends at a byte .)" */
    private static void wordEndsAtPoint() {
        CHECK.good(0, BOX + "plane.. ..;");
        CHECK.good(0, BOX + "plane.a b.;");
        CHECK.bad(LINE, BOX + "plane^. ..;");
        CHECK.bad(SYNTAX, "box^. 2 2 2;");
        CHECK.bad(SYNTAX, BOX + "reach^.1;");
        CHECK.bad(SYNTAX, BOX + "hole^. 0 0;");
        CHECK.bad(SYNTAX, BOX + "price shown^.;");
        CHECK.bad(SYNTAX, BOX + "viewer 1 a^.1;");
        CHECK.bad(SYNTAX, BOX + "viewer 1 a^.a 1;");
    }

    /** "Spaces (byte 32) may precede any token and may follow the last one" */
    private static void spacesAheadAndBehind() {
        CHECK.good(1, "  box  2  2  2  ;  plane  aa  bb  ;  hole  0  0  ;  reach  1  ;  length  1  ;"
                + "  viewer  1  a  1  ;  price  (  shown  +  1  )  *  2  ;  ");
        CHECK.good(0, BOX + " ");
        CHECK.bad(SYNTAX, " ".repeat(800) + "^");
    }

    /** "they are needed between two numbers, and between two words or lines" */
    private static void spacesBetween() {
        CHECK.good(1, "box2 2 2;plane aa bb;hole0 0;reach1;length1;viewer1a1;price(shown+1)*2;");
        CHECK.bad(SYNTAX, BOX + "hole 00^;");
        CHECK.bad(RANGE, BOX + "hole ^10;");
        CHECK.bad(RANGE, "box ^222;");
        CHECK.bad(SYNTAX, BOX + "^planeaa bb;");
        CHECK.bad(LINE, BOX + "plane ^aabb;");
        CHECK.bad(SYNTAX, BOX + "price ^shownkinds;");
    }

    /** "No other byte separates tokens." */
    private static void noOtherByteSeparates() {
        char[] others = {0, 1, '\t', '\n', 11, 12, '\r', 31, 33, ',', '_', 127, 128, 160, 254, 255};
        for (char other : others) {
            CHECK.bad(SYNTAX, "^" + other + BOX);
            CHECK.bad(SYNTAX, "box^" + other + "2 2 2;");
            CHECK.bad(SYNTAX, "box 2^" + other + "2 2;");
            CHECK.bad(SYNTAX, BOX + "^" + other);
            CHECK.bad(SYNTAX, BOX + "plane aa^" + other + "aa;");
            CHECK.bad(SYNTAX, BOX + "price 1 ^" + other + "+1;");
            CHECK.bad(SYNTAX, BOX + "viewer 1 a^" + other + "1;");
        }
    }

    /** "The numbers of box are the width, the height and the number of planes." with their ranges */
    private static void numbersOfBox() {
        int[] most = {12, 8, 5};
        for (int which = 0; which < 3; which++) {
            for (int number = 1; number <= most[which]; number++) {
                String[] all = {"1", "1", "1"};
                all[which] = String.valueOf(number);
                holds("box " + String.join(" ", all) + ";", which, number);
            }
            for (int number : new int[] {0, most[which] + 1, 100}) {
                String[] all = {"1", "1", "1"};
                all[which] = "^" + number;
                CHECK.bad(RANGE, "box " + String.join(" ", all) + ";");
            }
        }
    }

    /** "Plane statements tell the planes from the foremost one on" */
    private static void planesFromTheForemost() {
        PeepBox box = Check.loaded("box 1 1 3;plane b;reach 1;plane c;");
        CHECK.same("the first told", box.stands(0, 0, 0), 1);
        CHECK.same("the second told", box.stands(1, 0, 0), 2);
        CHECK.same("the back, not told", box.stands(2, 0, 0), 0);
    }

    /** "each with as many lines as the height, from the top, each of as many bytes as the width" */
    private static void linesOfAPlane() {
        CHECK.good(0, "box 12 8 1;plane" + " abcdefghijkl".repeat(8) + ";");
        CHECK.good(0, "box 1 1 1;plane a;");
        CHECK.good(0, "box 5 1 1;plane plane;");
        CHECK.good(0, "box 4 2 1;plane hole hole;hole 0 0;");
        PeepBox box = Check.loaded("box 2 3 1;plane ab cd ef;");
        for (int i = 0; i < 6; i++) {
            CHECK.same("cell " + i, box.stands(0, i % 2, i / 2), i);
        }
        CHECK.bad(LINE, "box 12 1 1;plane ^abcdefghijk;");
        CHECK.bad(LINE, "box 12 1 1;plane ^abcdefghijklm;");
    }

    /** "Planes that are not told are open everywhere; the back has the kind a everywhere then." */
    private static void planesThatAreNotTold() {
        for (int told = 0; told <= 3; told++) {
            PeepBox box = Check.loaded("box 2 2 3;" + "plane bb bb;".repeat(told));
            for (int plane = 0; plane < 3; plane++) {
                int due = plane < told ? 1 : plane < 2 ? -1 : 0;
                for (int i = 0; i < 4; i++) {
                    CHECK.same("stands(" + plane + ", ..) of " + told, box.stands(plane, i % 2, i / 2), due);
                }
            }
        }
    }

    /** "without holes there is one with the x 0 and the y 0" */
    private static void withoutHoles() {
        PeepBox box = Check.loaded("box 12 8 1;reach 9;");
        CHECK.same("holes", box.state(3), 1);
        CHECK.same("its x", box.hole(0, 0), 0);
        CHECK.same("its y", box.hole(0, 1), 0);
        holds("box 12 8 1;hole 11 7;", 3, 1);
        CHECK.same("told x", Check.loaded("box 12 8 1;hole 11 7;").hole(0, 0), 11);
    }

    /** "Reach is 9 and length 3 without their statements." */
    private static void withoutReachAndLength() {
        holds(BOX, 4, 9);
        holds(BOX, 5, 3);
        holds(BOX + "reach 0;", 4, 0);
        holds(BOX + "reach 0;", 5, 3);
        holds(BOX + "length 1;", 4, 9);
        holds(BOX + "length 1;", 5, 1);
    }

    /** "Those of viewer are the height, the wish (a kind of one letter) and the coins; the viewer waits." */
    private static void numbersOfViewer() {
        PeepBox box = Check.loaded(BOX + "viewer 0 z 999;viewer 9 a 0;");
        int[][] due = {{0, 25, 999, 0, -1, 0, 0}, {9, 0, 0, 0, -1, 0, 0}};
        for (int viewer = 0; viewer < 2; viewer++) {
            for (int what = 0; what < 7; what++) {
                CHECK.same("viewer(" + viewer + ", " + what + ")", box.viewer(viewer, what), due[viewer][what]);
            }
        }
    }

    /** "A number as a factor is 0 to 9999." */
    private static void numbersInAPrice() {
        CHECK.good(0, BOX + "price 0;");
        CHECK.good(0, BOX + "price 9999*0+9999;");
        CHECK.bad(RANGE, BOX + "price ^10000;");
        CHECK.bad(RANGE, BOX + "price 1+^10000*0;");
        CHECK.bad(RANGE, BOX + "price 1*(^10000);");
    }

    /** "The statements reach, length and price may occur once each." */
    private static void onceEach() {
        CHECK.good(0, BOX + "reach 1;length 1;price 1;");
        CHECK.good(0, BOX + "price 1;length 1;reach 1;");
        CHECK.good(2, BOX + "hole 0 0;hole 0 0;plane aa aa;plane aa aa;viewer 1 a 1;viewer 1 a 1;");
        CHECK.bad(SYNTAX, BOX + "reach 1;length 1;price 1;^reach 1;");
        CHECK.bad(SYNTAX, BOX + "reach 1;length 1;price 1;^length 1;");
        CHECK.bad(SYNTAX, BOX + "reach 1;length 1;price 1;^price 1;");
    }

    /** "Parentheses nest at most 4 deep." */
    private static void nestingOfFour() {
        CHECK.good(0, BOX + "price ((((1))));");
        CHECK.good(0, BOX + "price ((((1))))+((((1))))*((((1))));");
        CHECK.good(0, BOX + "price 1+(1+(1+(1+(1)+(1))+(1))+(1))+(1);");
        CHECK.bad(DEEP, BOX + "price ((((^(1)))));");
        CHECK.bad(DEEP, BOX + "price 1+(1+(1+(1+(1)+(1+^(1)))));");
    }

    /** "The first error in the text is the one with the smallest offset." */
    private static void smallestOffset() {
        CHECK.bad(LINE, BOX + "plane ^a;reach;");
        CHECK.bad(LINE, BOX + "plane ^aA aa;");
        CHECK.bad(LINE, BOX + "plane aa aa;plane ^... ..;");
        CHECK.bad(LINE, BOX + "plane aa aa;plane a^. aaa 1;");
        CHECK.bad(RANGE, "box ^0 0 0;");
        CHECK.bad(RANGE, BOX + "reach ^10 x;");
        CHECK.bad(RANGE, BOX + "viewer ^10 aa 1000;");
        CHECK.bad(RANGE, BOX + "viewer 1 ^aa 1000;");
        CHECK.bad(RANGE, BOX + "reach ^10;reach 1;");
        CHECK.bad(SYNTAX, BOX + "reach 1;^reach 10;");
        CHECK.bad(MANY, "box 1 1 1;plane a;^plane bb A;");
        CHECK.bad(MANY, BOX + "hole 0 0;".repeat(4) + "^hole 2 x");
        CHECK.bad(MANY, BOX + "viewer 1 a 1;".repeat(20) + "^viewer 10 aa;");
        CHECK.bad(DEEP, BOX + "price ((((^(10000 x");
        CHECK.bad(RANGE, BOX + "price ((((^10000+(1");
    }

    /** "If several kinds of error have the same offset, the first one in this list counts" */
    private static void firstInTheList() {
        CHECK.bad(SYNTAX, BOX + "price ((((1^(1)))));");
        CHECK.bad(SYNTAX, BOX + "price ((((shown ^(");
        CHECK.bad(SYNTAX, BOX + "plane aa aa ^aaa;");
        CHECK.bad(SYNTAX, BOX + "plane aa aa;plane aa aa ^..;");
        CHECK.bad(SYNTAX, BOX + "hole 0 0 ^99;");
        CHECK.bad(SYNTAX, BOX + "price 1 ^99999;");
        CHECK.bad(SYNTAX, BOX + "^99999;");
        CHECK.bad(SYNTAX, "box 1 1 1;plane a;^planea;");
        CHECK.bad(SYNTAX, BOX + "hole 0 0;".repeat(4) + "^holes 0 0;");
        CHECK.bad(SYNTAX, BOX + "viewer 1 a 1;".repeat(20) + "^viewers 1 a 1;");
        CHECK.bad(SYNTAX, BOX + "viewer ^aa");
        CHECK.bad(SYNTAX, BOX + "viewer 1 ^99");
    }

    /** "a token or byte that the grammar does not allow here, at its first byte" */
    private static void syntaxAtFirstByte() {
        CHECK.bad(SYNTAX, "^bax 2 2 2;");
        CHECK.bad(SYNTAX, "   ^bo");
        CHECK.bad(SYNTAX, "^2 2 2;");
        CHECK.bad(SYNTAX, "box 2 ^height 2;");
        CHECK.bad(SYNTAX, "box 2 2 2 ^reach 1;");
        CHECK.bad(SYNTAX, BOX + "^rea");
        CHECK.bad(SYNTAX, BOX + "   ^curtain 1;");
        CHECK.bad(SYNTAX, BOX + "reach ^many;");
        CHECK.bad(SYNTAX, BOX + "reach ^-1;");
        CHECK.bad(SYNTAX, BOX + "price 1 ^plus 1;");
        CHECK.bad(SYNTAX, BOX + "price 1^^1;");
        CHECK.bad(SYNTAX, BOX + "price 1^=1;");
        CHECK.bad(SYNTAX, BOX + "reach 1^.0;");
        CHECK.bad(SYNTAX, BOX + "^(1);");
    }

    /** "the end of the text, at its length, if the text ends too early" */
    private static void syntaxAtTheEnd() {
        String[] early = {"", "box", "box 2", "box 2 2", "box 2 2 2", BOX + "plane", BOX + "plane aa",
            BOX + "plane aa aa", BOX + "hole", BOX + "hole 0", BOX + "hole 0 0", BOX + "reach", BOX + "reach 1",
            BOX + "length", BOX + "length 1", BOX + "viewer", BOX + "viewer 1", BOX + "viewer 1 a",
            BOX + "viewer 1 a 1", BOX + "price", BOX + "price 1", BOX + "price 1+", BOX + "price 1*",
            BOX + "price (", BOX + "price (1", BOX + "price (1)", BOX + "price ((((1)))", BOX + "price shown"};
        for (String text : early) {
            CHECK.bad(SYNTAX, text + "^");
            CHECK.bad(SYNTAX, text + " ^");
            CHECK.bad(SYNTAX, text + "     ^");
        }
    }

    /** "a second reach, length or price, at its first letter" */
    private static void syntaxOfASecond() {
        CHECK.bad(SYNTAX, BOX + "reach 9;  ^reach 9;");
        CHECK.bad(SYNTAX, BOX + "length 3;  ^length 3;");
        CHECK.bad(SYNTAX, BOX + "price 1+shown;  ^price 1+shown;");
        CHECK.bad(SYNTAX, BOX + "reach 1;^reach");
        CHECK.bad(SYNTAX, BOX + "length 1;^length 21;");
        CHECK.bad(SYNTAX, BOX + "price 1;^price ((((((1");
    }

    /** "a ";" ahead of the last line of a plane ..., at its first byte" */
    private static void syntaxAheadOfTheLastLine() {
        CHECK.bad(SYNTAX, "box 2 3 1;plane^;");
        CHECK.bad(SYNTAX, "box 2 3 1;plane aa ^;");
        CHECK.bad(SYNTAX, "box 2 3 1;plane aa aa  ^; aa;");
        CHECK.good(0, "box 2 3 1;plane aa aa aa;");
    }

    /** "or a line behind it (whatever it is), at its first byte" */
    private static void syntaxBehindTheLastLine() {
        String[] lines = {"aa", "a", "aaa", ".", "..", "...", "hole", "zz.zz"};
        for (String line : lines) {
            CHECK.bad(SYNTAX, BOX + "plane aa aa ^" + line + ";");
            CHECK.bad(SYNTAX, BOX + "plane aa aa;plane aa aa   ^" + line + ";");
        }
    }

    /** "OUT_OF_RANGE: a number outside its range, at its first digit" */
    private static void rangeAtFirstDigit() {
        CHECK.bad(RANGE, "box   ^0013 2 2;");
        CHECK.bad(RANGE, "box 2 ^09 2;");
        CHECK.bad(RANGE, "box 2 2 ^06;");
        CHECK.bad(RANGE, "box 2 2 ^000;");
        CHECK.good(0, BOX + "hole 1 1;");
        CHECK.bad(RANGE, BOX + "hole ^2 1;");
        CHECK.bad(RANGE, BOX + "hole 1   ^02;");
        CHECK.bad(RANGE, "box 12 8 1;hole ^12 7;");
        CHECK.bad(RANGE, "box 12 8 1;hole 11 ^8;");
        CHECK.bad(RANGE, BOX + "reach ^10;");
        CHECK.bad(RANGE, BOX + "length ^0;");
        CHECK.bad(RANGE, BOX + "length ^21;");
        CHECK.bad(RANGE, BOX + "viewer ^10 a 1;");
        CHECK.bad(RANGE, BOX + "viewer 1 a ^1000;");
    }

    /** "a kind of more than one letter, at its first letter" */
    private static void kindOfMoreLetters() {
        CHECK.bad(RANGE, BOX + "viewer 1   ^ab 1;");
        CHECK.bad(RANGE, BOX + "viewer 1^zz1;");
        CHECK.bad(RANGE, BOX + "viewer 1 ^shown");
        CHECK.bad(RANGE, BOX + "viewer 1 ^ab.");
        CHECK.good(1, BOX + "viewer 1 a 1;");
    }

    /** "WRONG_LINE: a line that has not as many bytes as the width, at its first byte" */
    private static void lineTooShortOrTooLong() {
        CHECK.bad(LINE, BOX + "plane   ^a aa;");
        CHECK.bad(LINE, BOX + "plane   ^aaa aa;");
        CHECK.bad(LINE, BOX + "plane aa   ^a;");
        CHECK.bad(LINE, BOX + "plane aa   ^aaa;");
        CHECK.bad(LINE, BOX + "plane aa   ^...;");
        CHECK.bad(LINE, BOX + "plane ^" + "a".repeat(700));
        CHECK.bad(LINE, BOX + "plane aa aa;plane aa ^aa.;");
    }

    /** "an open cell in the back, at its byte" */
    private static void openCellInTheBack() {
        CHECK.bad(LINE, "box 3 2 1;plane ^.aa aaa;");
        CHECK.bad(LINE, "box 3 2 1;plane a^.a aaa;");
        CHECK.bad(LINE, "box 3 2 1;plane aa^. aaa;");
        CHECK.bad(LINE, "box 3 2 1;plane aaa a^..;");
        CHECK.bad(LINE, "box 3 2 2;plane ... ...;plane aaa aa^.;");
        CHECK.good(0, "box 3 2 2;plane ... ...;plane aaa aaa;");
    }

    /** "TOO_MANY: a plane beyond the number of planes ..., at the first letter of the statement" */
    private static void planeTooMany() {
        for (int planes = 1; planes <= 5; planes++) {
            String text = "box 1 1 " + planes + ";" + "plane a;".repeat(planes);
            CHECK.good(0, text);
            CHECK.bad(MANY, text + "  ^plane a;");
            CHECK.bad(MANY, text + "reach 1;^plane");
        }
    }

    /** "a 5th hole" */
    private static void holeTooMany() {
        String text = BOX + "hole 1 1;".repeat(4);
        CHECK.good(0, text);
        holds(text, 3, 4);
        CHECK.bad(MANY, text + "  ^hole 1 1;");
        CHECK.bad(MANY, text + "reach 1;^hole;");
        CHECK.good(0, text + "price hole;");
    }

    /** "a 21st viewer" */
    private static void viewerTooMany() {
        String text = BOX + "viewer 1 a 1;".repeat(20);
        CHECK.good(20, text);
        CHECK.bad(MANY, text + "  ^viewer 1 a 1;");
        CHECK.bad(MANY, text + "reach 1;^viewer");
    }

    /** "TOO_DEEP: an opening parenthesis inside 4 others, at that parenthesis" */
    private static void tooDeep() {
        CHECK.bad(DEEP, BOX + "price  (  (  (  (  ^(");
        CHECK.bad(DEEP, BOX + "price ((((1+^(1)))));");
        CHECK.bad(DEEP, BOX + "price ((((1*^(1)))));");
        CHECK.bad(DEEP, BOX + "price ((((1)))*(((1+2/^(1");
        CHECK.bad(DEEP, BOX + "price ((((^" + "(".repeat(700));
    }
}
