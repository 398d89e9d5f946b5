/** Promises 1 to 4: a new object, append, load, errorOffset. */
final class SetupTest {
    private static final Check CHECK = new Check("SetupTest");
    private static final String EIGHT_BY_TWELVE = "abcdefghijkl ";

    public static void main(String[] args) {
        newObject();
        append();
        bufferOfLoad();
        failedLoad();
        loadReplacesAll();
        rightTexts();
        boxErrors();
        planeErrors();
        otherErrors();
        priceErrors();
        tooMany();
        defaults();
        textEndsInsideRun();
        oneTextAfterTheOther();
        CHECK.finish();
    }

    private static void newObject() {
        PeepBox box = new PeepBox();
        long[] due = {4, 3, 2, 1, 9, 3, 0, 0, 0, 0, 0, 0, 0, 1};
        for (int what = 0; what < due.length; what++) {
            CHECK.same("new state(" + what + ")", box.state(what), due[what]);
        }
        CHECK.same("new checksum", box.checksum(), Check.loaded("box 4 3 2;").checksum());
        CHECK.same("new errorOffset", box.errorOffset(), -1);
        CHECK.same("new undo", box.undo(), -1);
        CHECK.illegal("new load(1)", () -> box.load(1));
        CHECK.same("new append", box.append(0, 0, 0, 0, 0), 20);
    }

    private static void append() {
        PeepBox box = new PeepBox();
        for (int i = 1; i <= 39; i++) {
            CHECK.same("append no. " + i, box.append(0x20202020, 0x20202020, 0x20202020, 0x20202020, 0x20202020), 20 * i);
        }
        CHECK.same("append no. 40", box.append(0x626f7820, 0x35203620, 0x333b2020, 0x20202020, 0x20202020), 800);
        CHECK.same("append no. 41", box.append(0, 0, 0, 0, 0), -1);
        CHECK.same("append no. 42", box.append(0, 0, 0, 0, 0), -1);
        CHECK.illegal("load(801)", () -> box.load(801));
        CHECK.same("load(800)", box.load(800), 0);
        CHECK.same("width", box.state(0), 5);
        CHECK.same("height", box.state(1), 6);
        CHECK.same("planes", box.state(2), 3);
        CHECK.same("append after load", box.append(0, 0, 0, 0, 0), 20);
    }

    private static void bufferOfLoad() {
        PeepBox box = new PeepBox();
        Check.append(box, "box 1 1 1;viewer 1 a 1;nonsense");
        CHECK.illegal("load(-1)", () -> box.load(-1));
        CHECK.illegal("load(41)", () -> box.load(41));
        CHECK.illegal("load(least)", () -> box.load(Integer.MIN_VALUE));
        CHECK.illegal("load(most)", () -> box.load(Integer.MAX_VALUE));
        CHECK.same("load of the first bytes", box.load(23), 1);
        CHECK.same("the rest is gone", box.append(0, 0, 0, 0, 0), 20);
        CHECK.same("load(0)", box.load(0), PeepBox.SYNTAX_ERROR);
        CHECK.same("errorOffset", box.errorOffset(), 0);
        CHECK.illegal("load(1)", () -> box.load(1));
        Check.append(box, "box 1 1 1;");
        CHECK.same("load(9)", box.load(9), PeepBox.SYNTAX_ERROR);
        CHECK.same("errorOffset", box.errorOffset(), 9);
        CHECK.illegal("load(21)", () -> box.load(21));
        CHECK.same("a throwing load keeps the offset", box.errorOffset(), 9);
        CHECK.same("load right again", Check.load(box, "box 1 1 1;"), 0);
        CHECK.same("errorOffset", box.errorOffset(), -1);
    }

    private static void failedLoad() {
        PeepBox box = Check.loaded("box 3 2 2;plane a.b .c.;hole 1 1;reach 4;length 2;viewer 1 a 50;price 7;");
        box.pass(1);
        box.pull(0, 1);
        long before = box.checksum();
        CHECK.same("failing load", Check.load(box, "box 2 1 2;plane bb;hole 1 0;reach 1;length 9;viewer 2 b 9;price 1;x"),
                PeepBox.SYNTAX_ERROR);
        CHECK.same("data of before", box.checksum(), before);
        CHECK.same("price of before", box.price(0, 0), 7);
        CHECK.same("a failing load is no change", box.undo(), 2);
        CHECK.same("pull undone", box.plane(0, 0), 0);
    }

    /** The bytes behind the text are no part of a run that its end cuts. */
    private static void textEndsInsideRun() {
        cut("box 1 1 1", "5;");
        cut("box 2 1 2;plane ab", "c;");
        cut("box 2 1 2;plane ab", ".;");
        cut("box 1 1 1;viewer 1 a", "b 1;");
        cut("box 1 1 1;reach", "x 1;");
        cut("box 1 1 1;price shown", "s;");
        cut("box 1 1 1;price 9999", "9;");
        cut("box 1 1 1;price 1", "+;");
        cut("box 1 1 1", ";");
    }

    private static void cut(String text, String behind) {
        PeepBox box = new PeepBox();
        Check.append(box, text + behind);
        CHECK.same("load of " + text + " ahead of " + behind, box.load(text.length()), PeepBox.SYNTAX_ERROR);
        CHECK.same("errorOffset of " + text + " ahead of " + behind, box.errorOffset(), text.length());
    }

    private static void oneTextAfterTheOther() {
        PeepBox box = new PeepBox();
        String text = "box 2 1 2;plane b.;plane cd;hole 1 0;hole 0 0;reach 3;length 4;price 5;viewer 1 a 9;";
        for (int times = 1; times <= 3; times++) {
            CHECK.same("load no. " + times, Check.load(box, text), 1);
            CHECK.same("holes", box.state(3), 2);
            CHECK.same("viewers", box.state(7), 1);
            CHECK.same("stands", box.stands(0, 0, 0), 1);
            CHECK.same("price", box.price(0, 0), 5);
            Check.load(box, text + ";");
        }
        CHECK.same("load", Check.load(box, "box 2 1 2;viewer 1 d 9;"), 1);
        CHECK.same("plane that is not told again", box.stands(0, 0, 0), -1);
        CHECK.same("back that is not told again", box.stands(1, 1, 0), 0);
        CHECK.same("holes", box.state(3), 1);
        CHECK.same("reach", box.state(4), 9);
        CHECK.same("length", box.state(5), 3);
        CHECK.same("price", box.price(0, 0), 1);
    }

    private static void loadReplacesAll() {
        PeepBox box = Check.loaded("box 3 2 2;plane aab aca;hole 1 1;hole 0 0;reach 4;length 2;viewer 1 a 50;price 7;");
        box.pull(0, 1);
        box.pass(5);
        box.come(1, 1, 1);
        CHECK.same("load", Check.load(box, "box 4 3 2;"), 0);
        CHECK.same("checksum", box.checksum(), new PeepBox().checksum());
        box.come(0, 0, 900);
        CHECK.same("price without its statement", box.price(0, 0), 13);
        CHECK.same("pull back at 0", box.plane(0, 0), 0);
        CHECK.same("undo", box.undo(), 5);
        CHECK.same("undo of load", box.undo(), 4);
        CHECK.same("price of before", box.price(0, 0), 7);
    }

    private static void rightTexts() {
        CHECK.good(0, "box4 3 2;");
        CHECK.good(0, "   box   4   3   2   ;   ");
        CHECK.good(0, "box 12 8 5;");
        CHECK.good(0, "box 1 1 1;");
        CHECK.good(0, "box 000000000000000000000000000000000000004 03 002;");
        CHECK.good(0, "box 2 1 2;plane..;");
        CHECK.good(0, "box 2 1 2;plane.a;plane ab;");
        CHECK.good(0, "box 1 1 1;hole0 0;hole 0 0;hole 0 0;hole 00 00;");
        CHECK.good(0, "box 1 1 1;reach 0;");
        CHECK.good(0, "box 1 1 1;reach 9;length 20;");
        CHECK.good(0, "box 1 1 1;length 1;price 0;");
        CHECK.good(2, "box 1 1 1;viewer0z999;viewer 9 a 0;");
        CHECK.good(0, "box 1 1 1;price(((( 9999 ))))+((((1))));");
        CHECK.good(0, "box 1 1 1;price shown*kinds/depth-hole+0;");
        CHECK.good(0, "box 1 1 1;price 2*(shown + 1)*(3/(kinds-1));");
    }

    private static void boxErrors() {
        CHECK.bad(PeepBox.SYNTAX_ERROR, "^");
        CHECK.bad(PeepBox.SYNTAX_ERROR, "   ^");
        CHECK.bad(PeepBox.SYNTAX_ERROR, "^bo 4 3 2;");
        CHECK.bad(PeepBox.SYNTAX_ERROR, "^boxx 4 3 2;");
        CHECK.bad(PeepBox.SYNTAX_ERROR, " ^Box 4 3 2;");
        CHECK.bad(PeepBox.SYNTAX_ERROR, "^plane 4 3 2;");
        CHECK.bad(PeepBox.SYNTAX_ERROR, "box^");
        CHECK.bad(PeepBox.SYNTAX_ERROR, "box ^");
        CHECK.bad(PeepBox.SYNTAX_ERROR, "box^.4 3 2;");
        CHECK.bad(PeepBox.SYNTAX_ERROR, "box^\t4 3 2;");
        CHECK.bad(PeepBox.SYNTAX_ERROR, "box ^-4 3 2;");
        CHECK.bad(PeepBox.SYNTAX_ERROR, "box 4 3^;");
        CHECK.bad(PeepBox.SYNTAX_ERROR, "box 4 3 2^");
        CHECK.bad(PeepBox.SYNTAX_ERROR, "box 4 3 2  ^");
        CHECK.bad(PeepBox.SYNTAX_ERROR, "box 4 3 2 ^5;");
        CHECK.bad(PeepBox.SYNTAX_ERROR, "box 4 3 2;^;");
        CHECK.bad(PeepBox.SYNTAX_ERROR, "box 4 3 2; ^foo 1;");
        CHECK.bad(PeepBox.SYNTAX_ERROR, "box 4 3 2;^box 4 3 2;");
        CHECK.bad(PeepBox.SYNTAX_ERROR, "box 4 3 2;^7;");
        CHECK.bad(PeepBox.SYNTAX_ERROR, "box 4 3 2;^\u0000");
        CHECK.bad(PeepBox.SYNTAX_ERROR, "box 4 3 2;^\u00ff");
        CHECK.bad(PeepBox.SYNTAX_ERROR, "box 4 3 2;^\n");
        CHECK.bad(PeepBox.SYNTAX_ERROR, "box 4^\u00b2 3 2;");
        CHECK.bad(PeepBox.OUT_OF_RANGE, "box ^0 3 2;");
        CHECK.bad(PeepBox.OUT_OF_RANGE, "box ^13 3 2;");
        CHECK.bad(PeepBox.OUT_OF_RANGE, "box 4 ^0 2;");
        CHECK.bad(PeepBox.OUT_OF_RANGE, "box 4 ^9 2;");
        CHECK.bad(PeepBox.OUT_OF_RANGE, "box 4 3 ^0;");
        CHECK.bad(PeepBox.OUT_OF_RANGE, "box 4 3 ^6;");
        CHECK.bad(PeepBox.OUT_OF_RANGE, "box ^00000 3 2;");
        CHECK.bad(PeepBox.OUT_OF_RANGE, "box ^4294967300 3 2;");
        CHECK.bad(PeepBox.OUT_OF_RANGE, "box ^18446744073709551620 3 2;");
        CHECK.bad(PeepBox.OUT_OF_RANGE, "box ^99999999999999999999999999999999999999 3 2;");
    }

    private static void planeErrors() {
        CHECK.bad(PeepBox.SYNTAX_ERROR, "box 2 2 2;^planeaa aa;");
        CHECK.bad(PeepBox.SYNTAX_ERROR, "box 2 2 2;plane ^;");
        CHECK.bad(PeepBox.SYNTAX_ERROR, "box 2 2 2;plane aa^;");
        CHECK.bad(PeepBox.SYNTAX_ERROR, "box 2 2 2;plane aa ^");
        CHECK.bad(PeepBox.SYNTAX_ERROR, "box 2 2 2;plane aa ^5;");
        CHECK.bad(PeepBox.SYNTAX_ERROR, "box 2 2 2;plane aa a.^");
        CHECK.bad(PeepBox.SYNTAX_ERROR, "box 2 2 2;plane aa a. ^aa;");
        CHECK.bad(PeepBox.SYNTAX_ERROR, "box 2 2 2;plane aa a. ^a;");
        CHECK.bad(PeepBox.SYNTAX_ERROR, "box 2 2 2;plane aa a. ^.;");
        CHECK.bad(PeepBox.SYNTAX_ERROR, "box 2 2 2;plane aa aa;plane aa aa ^..;");
        CHECK.bad(PeepBox.SYNTAX_ERROR, "box 2 2 2;plane aa a.^A;");
        CHECK.bad(PeepBox.SYNTAX_ERROR, "box 2 2 2;plane ^Aa aa;");
        CHECK.bad(PeepBox.WRONG_LINE, "box 2 2 2;plane ^a;");
        CHECK.bad(PeepBox.WRONG_LINE, "box 2 2 2;plane ^a aa;");
        CHECK.bad(PeepBox.WRONG_LINE, "box 2 2 2;plane aa ^aaa;");
        CHECK.bad(PeepBox.WRONG_LINE, "box 2 2 2;plane aa ^.;");
        CHECK.bad(PeepBox.WRONG_LINE, "box 2 2 2;plane.. ^...;");
        CHECK.bad(PeepBox.WRONG_LINE, "box 2 2 2;plane aa aa;plane aa a^.;");
        CHECK.bad(PeepBox.WRONG_LINE, "box 2 2 2;plane aa aa;plane ^.. aa;");
        CHECK.bad(PeepBox.WRONG_LINE, "box 2 2 2;plane aa aa;plane aa ^aa.;");
        CHECK.bad(PeepBox.WRONG_LINE, "box 2 1 1;plane a^.;");
        CHECK.bad(PeepBox.WRONG_LINE, "box 1 1 1;plane ^ab");
    }

    private static void otherErrors() {
        CHECK.bad(PeepBox.SYNTAX_ERROR, "box 4 3 2;hole^;");
        CHECK.bad(PeepBox.SYNTAX_ERROR, "box 4 3 2;hole 1^;");
        CHECK.bad(PeepBox.SYNTAX_ERROR, "box 4 3 2;hole 1 1 ^1;");
        CHECK.bad(PeepBox.SYNTAX_ERROR, "box 4 3 2;^holes 1 1;");
        CHECK.bad(PeepBox.OUT_OF_RANGE, "box 4 3 2;hole ^4 0;");
        CHECK.bad(PeepBox.OUT_OF_RANGE, "box 4 3 2;hole 3 ^3;");
        CHECK.bad(PeepBox.OUT_OF_RANGE, "box 4 3 2;reach ^10;");
        CHECK.bad(PeepBox.SYNTAX_ERROR, "box 4 3 2;reach^;");
        CHECK.bad(PeepBox.SYNTAX_ERROR, "box 4 3 2;reach 1;^reach 1;");
        CHECK.bad(PeepBox.SYNTAX_ERROR, "box 4 3 2;reach 1;length 3; ^reach 11;");
        CHECK.bad(PeepBox.OUT_OF_RANGE, "box 4 3 2;length ^0;");
        CHECK.bad(PeepBox.OUT_OF_RANGE, "box 4 3 2;length ^21;");
        CHECK.bad(PeepBox.SYNTAX_ERROR, "box 4 3 2;length 1;^length 1;");
        CHECK.bad(PeepBox.SYNTAX_ERROR, "box 4 3 2;length 3^");
        CHECK.bad(PeepBox.SYNTAX_ERROR, "box 4 3 2;viewer ^a 1;");
        CHECK.bad(PeepBox.SYNTAX_ERROR, "box 4 3 2;viewer 1 ^1;");
        CHECK.bad(PeepBox.SYNTAX_ERROR, "box 4 3 2;viewer 1 ^. 1;");
        CHECK.bad(PeepBox.SYNTAX_ERROR, "box 4 3 2;viewer 1 a^. 1;");
        CHECK.bad(PeepBox.SYNTAX_ERROR, "box 4 3 2;viewer 1 a^;");
        CHECK.bad(PeepBox.SYNTAX_ERROR, "box 4 3 2;viewer 1 a 1 ^a;");
        CHECK.bad(PeepBox.OUT_OF_RANGE, "box 4 3 2;viewer ^10 a 1;");
        CHECK.bad(PeepBox.OUT_OF_RANGE, "box 4 3 2;viewer 1 ^ab 1;");
        CHECK.bad(PeepBox.OUT_OF_RANGE, "box 4 3 2;viewer 1 ^ab. 1;");
        CHECK.bad(PeepBox.OUT_OF_RANGE, "box 4 3 2;viewer 1 a ^1000;");
    }

    private static void priceErrors() {
        CHECK.bad(PeepBox.SYNTAX_ERROR, "box 4 3 2;price ^;");
        CHECK.bad(PeepBox.SYNTAX_ERROR, "box 4 3 2;price 1;^price 1;");
        CHECK.bad(PeepBox.SYNTAX_ERROR, "box 4 3 2;price 1 ^2;");
        CHECK.bad(PeepBox.SYNTAX_ERROR, "box 4 3 2;price 1 ^shown;");
        CHECK.bad(PeepBox.SYNTAX_ERROR, "box 4 3 2;price shown^2;");
        CHECK.bad(PeepBox.SYNTAX_ERROR, "box 4 3 2;price ^shownkinds;");
        CHECK.bad(PeepBox.SYNTAX_ERROR, "box 4 3 2;price ^a;");
        CHECK.bad(PeepBox.SYNTAX_ERROR, "box 4 3 2;price ^-1;");
        CHECK.bad(PeepBox.SYNTAX_ERROR, "box 4 3 2;price 1+^;");
        CHECK.bad(PeepBox.SYNTAX_ERROR, "box 4 3 2;price 1+^*2;");
        CHECK.bad(PeepBox.SYNTAX_ERROR, "box 4 3 2;price 1*^");
        CHECK.bad(PeepBox.SYNTAX_ERROR, "box 4 3 2;price (^);");
        CHECK.bad(PeepBox.SYNTAX_ERROR, "box 4 3 2;price (1^;");
        CHECK.bad(PeepBox.SYNTAX_ERROR, "box 4 3 2;price (1^");
        CHECK.bad(PeepBox.SYNTAX_ERROR, "box 4 3 2;price 1^);");
        CHECK.bad(PeepBox.SYNTAX_ERROR, "box 4 3 2;price (1)^(2);");
        CHECK.bad(PeepBox.SYNTAX_ERROR, "box 4 3 2;price ((((1^(1))));");
        CHECK.bad(PeepBox.SYNTAX_ERROR, "box 4 3 2;price 1^%2;");
        CHECK.bad(PeepBox.OUT_OF_RANGE, "box 4 3 2;price ^10000;");
        CHECK.bad(PeepBox.OUT_OF_RANGE, "box 4 3 2;price 1+(2*^4294967296);");
        CHECK.bad(PeepBox.TOO_DEEP, "box 4 3 2;price ((((^(1)))));");
        CHECK.bad(PeepBox.TOO_DEEP, "box 4 3 2;price ((((1)+(1))*((1+^(");
        CHECK.bad(PeepBox.TOO_DEEP, "box 4 3 2;price ((((^((((((((((((((((((((((((((((((((((((((((((((((((((((((((((((((((");
    }

    private static void tooMany() {
        StringBuilder holes = new StringBuilder("box 1 1 1;");
        holes.append("hole 0 0;".repeat(4));
        CHECK.good(0, holes.toString());
        CHECK.bad(PeepBox.TOO_MANY, holes + " ^hole 0 0;");
        CHECK.bad(PeepBox.TOO_MANY, holes + "^hole");
        CHECK.bad(PeepBox.SYNTAX_ERROR, holes + "^holes");
        StringBuilder viewers = new StringBuilder("box 1 1 1;");
        viewers.append("viewer 1 a 1;".repeat(20));
        CHECK.good(20, viewers.toString());
        CHECK.bad(PeepBox.TOO_MANY, viewers + "^viewer 1 a 1;");
        CHECK.bad(PeepBox.TOO_MANY, "box 1 1 2;plane a;plane a;^plane a;");
        CHECK.bad(PeepBox.TOO_MANY, "box 1 1 1;plane a;^plane ...;");
        String full = "box 12 8 5;" + ("plane " + EIGHT_BY_TWELVE.repeat(8) + ";").repeat(5);
        CHECK.good(0, full);
        CHECK.bad(PeepBox.TOO_MANY, full + "^plane;");
    }

    private static void defaults() {
        PeepBox box = Check.loaded("box 2 2 3;plane b. .c;");
        CHECK.same("told kind", box.stands(0, 0, 0), 1);
        CHECK.same("told open cell", box.stands(0, 1, 0), -1);
        CHECK.same("second line", box.stands(0, 1, 1), 2);
        CHECK.same("plane that is not told", box.plane(1, 1), 0);
        CHECK.same("back that is not told", box.plane(2, 1), 4);
        CHECK.same("back's kind", box.stands(2, 1, 1), 0);
        CHECK.same("holes", box.state(3), 1);
        CHECK.same("hole's x", box.hole(0, 0), 0);
        CHECK.same("hole's y", box.hole(0, 1), 0);
        CHECK.same("reach", box.state(4), 9);
        CHECK.same("length", box.state(5), 3);
        PeepBox told = Check.loaded("box 2 2 1;plane xy zb;hole 1 0;hole 0 1;reach 0;length 20;viewer 3 d 77;");
        CHECK.same("back told", told.stands(0, 1, 0), 24);
        CHECK.same("holes", told.state(3), 2);
        CHECK.same("first hole's x", told.hole(0, 0), 1);
        CHECK.same("first hole's y", told.hole(0, 1), 0);
        CHECK.same("second hole's x", told.hole(1, 0), 0);
        CHECK.same("second hole's y", told.hole(1, 1), 1);
        CHECK.same("reach", told.state(4), 0);
        CHECK.same("length", told.state(5), 20);
        long[] viewer = {3, 3, 77, 0, -1, 0, 0};
        for (int what = 0; what < viewer.length; what++) {
            CHECK.same("viewer(0, " + what + ")", told.viewer(0, what), viewer[what]);
        }
    }
}
