/** Promises 12, 13 and 15 to 18: viewer, price, foretold, emptyIn, meanPaid, pass. */
final class ViewersTest {
    private static final Check CHECK = new Check("ViewersTest");
    private static final String TWO_HOLES = "box 2 1 1;plane ab;hole 0 0;hole 1 0;length 2;price 5;"
            + "viewer 0 a 7;viewer 0 b 5;viewer 0 a 4;viewer 0 a 9;viewer 0 b 100;";

    public static void main(String[] args) {
        ticks();
        foretelling();
        wishes();
        reach();
        prices();
        priceOfView();
        dearerLook();
        longLooks();
        wrongCalls();
        CHECK.finish();
    }

    private static void viewer(PeepBox box, int viewer, int... due) {
        for (int what = 0; what < due.length; what++) {
            CHECK.same("viewer(" + viewer + ", " + what + ")", box.viewer(viewer, what), due[what]);
        }
    }

    private static void ticks() {
        PeepBox box = Check.loaded(TWO_HOLES);
        CHECK.sameFloat("meanPaid", box.meanPaid(), 0f);
        CHECK.same("pass", box.pass(1), 0);
        viewer(box, 0, 0, 0, 7, 1, 0, 2, 0);
        viewer(box, 1, 0, 1, 5, 1, 1, 2, 0);
        viewer(box, 2, 0, 0, 4, 3, -1, 0, 0);
        viewer(box, 3, 0, 0, 9, 0, -1, 0, 0);
        viewer(box, 4, 0, 1, 100, 0, -1, 0, 0);
        CHECK.same("hole(0, 2)", box.hole(0, 2), 0);
        CHECK.same("hole(1, 2)", box.hole(1, 2), 1);
        CHECK.same("pass", box.pass(1), 0);
        CHECK.same("ticks left", box.viewer(0, 5), 1);
        CHECK.same("pass", box.pass(1), 10);
        viewer(box, 0, 0, 0, 2, 2, -1, 0, 5);
        viewer(box, 1, 0, 1, 0, 2, -1, 0, 5);
        viewer(box, 3, 0, 0, 9, 1, 0, 2, 0);
        viewer(box, 4, 0, 1, 100, 1, 1, 2, 0);
        CHECK.sameFloat("meanPaid", box.meanPaid(), 5f);
        CHECK.same("pass", box.pass(50), 10);
        CHECK.same("time", box.state(6), 53);
        CHECK.same("all paid", box.state(12), 20);
        CHECK.same("hole(0, 2)", box.hole(0, 2), -1);
        CHECK.same("emptyIn", box.emptyIn(), 0);
    }

    private static void foretelling() {
        PeepBox box = Check.loaded(TWO_HOLES);
        long before = box.checksum();
        int[][] due = {{0, 2, 2, 1}, {0, 2, 2, 1}, {10, 0, 2, 1}, {10, 0, 2, 1}, {20, 0, 0, 1}, {20, 0, 0, 1}};
        for (int ticks = 1; ticks <= 6; ticks++) {
            for (int what = 0; what < 4; what++) {
                CHECK.same("foretold(" + ticks + ", " + what + ")", box.foretold(ticks, what), due[ticks - 1][what]);
            }
        }
        CHECK.same("foretold(100, 0)", box.foretold(100, 0), 20);
        CHECK.same("emptyIn", box.emptyIn(), 5);
        CHECK.same("foretelling changes nothing", box.checksum(), before);
        CHECK.same("undo of the load", box.undo(), 0);
        PeepBox later = Check.loaded(TWO_HOLES);
        later.pass(3);
        CHECK.same("coins of now, too", later.foretold(1, 0), 10);
        CHECK.same("coins of now, too", later.foretold(2, 0), 20);
        CHECK.same("emptyIn", later.emptyIn(), 2);
        for (int wrong : new int[] {0, -1, 101, Integer.MIN_VALUE, Integer.MAX_VALUE}) {
            CHECK.illegal("foretold ticks", () -> later.foretold(wrong, 0));
        }
        CHECK.illegal("foretold what", () -> later.foretold(1, -1));
        CHECK.illegal("foretold what", () -> later.foretold(100, 4));
    }

    /** The second hole, at the right end, sees more of the b behind the open cell. */
    private static void wishes() {
        String text = "box 3 1 2;plane c..;plane bbb;hole 0 0;hole 2 0;hole 2 0;price 0;length 1;"
                + "viewer 0 b 0;viewer 0 b 0;viewer 0 b 0;viewer 0 b 0;";
        PeepBox box = Check.loaded(text);
        CHECK.same("shown(0, b)", box.shown(0, 1), 1);
        CHECK.same("shown(1, b)", box.shown(1, 1), 3);
        box.pass(1);
        CHECK.same("first takes the hole with most", box.viewer(0, 4), 1);
        CHECK.same("second takes the free one with most", box.viewer(1, 4), 2);
        CHECK.same("third takes what is free", box.viewer(2, 4), 0);
        CHECK.same("fourth waits", box.viewer(3, 3), 0);
        box.pass(1);
        CHECK.same("fourth takes a hole free since the same tick", box.viewer(3, 4), 1);
        CHECK.sameFloat("meanPaid of nothing", box.meanPaid(), 0f);
        PeepBox none = Check.loaded("box 1 1 1;price 1;viewer 0 z 1;viewer 0 z 2;length 1;");
        none.pass(1);
        CHECK.same("a wish that is not shown is looked for, too", none.viewer(0, 3), 1);
        none.pass(3);
        CHECK.same("state(12)", none.state(12), 2);
    }

    private static void reach() {
        PeepBox box = Check.loaded("box 1 4 1;hole 0 0;hole 0 3;reach 1;price 3+hole;"
                + "viewer 3 a 9;viewer 0 a 9;viewer 9 a 9;viewer 2 a 9;viewer 4 a 2;viewer 5 a 9;viewer 1 a 3;");
        int[][] due = {{3, -1}, {-1, 4}, {-1, -1}, {3, -1}, {3, -1}, {-1, -1}, {-1, 4}};
        for (int viewer = 0; viewer < due.length; viewer++) {
            CHECK.same("price(" + viewer + ", 0)", box.price(viewer, 0), due[viewer][0]);
            CHECK.same("price(" + viewer + ", 1)", box.price(viewer, 1), due[viewer][1]);
        }
        box.pass(1);
        int[] states = {1, 1, 3, 0, 3, 3, 3};
        for (int viewer = 0; viewer < states.length; viewer++) {
            CHECK.same("viewer(" + viewer + ", 3)", box.viewer(viewer, 3), states[viewer]);
        }
        CHECK.same("price of one who went", box.price(4, 0), 3);
        box.pass(10);
        CHECK.same("price of one who left", box.price(1, 1), 4);
        PeepBox strict = Check.loaded("box 1 2 1;reach 0;viewer 1 a 9;viewer 2 a 9;");
        CHECK.same("reach 0", strict.price(0, 0), 3);
        CHECK.same("reach 0", strict.price(1, 0), -1);
    }

    private static void price(String sum, int due) {
        PeepBox box = Check.loaded("box 2 1 1;plane ab;hole 0 0;hole 1 0;price " + sum + ";viewer 0 a 999;");
        CHECK.same("price " + sum, box.price(0, 1), due);
    }

    private static void prices() {
        price("7", 7);
        price("2+3*4", 14);
        price("(2+3)*4", 20);
        price("5-3-1", 1);
        price("5-(3-1)", 3);
        price("100/10/2", 5);
        price("100/(10/2)", 20);
        price("7/2*2", 6);
        price("2*7/2", 7);
        price("(0-7)/2+10", 7);
        price("1-2", 0);
        price("999", 999);
        price("1000", 999);
        price("9999", 999);
        price("5+7/0", 5);
        price("5+7/(hole-1)", 5);
        price("0/0", 0);
        price("9999*9999/2000", 500);
        price("(0-9999)*9999/2000+600", 100);
        price("9999*9999+9999-9999*9999", 0);
        price("0-9999*9999-9999+9999*9999", 0);
        price("9999*100+100-9999*100", 100);
        price("9999*100+101-9999*100", 100);
        price("9999*9999*9999*9999/(1000*1000)", 1);
        price("((((7))))*((((2))))", 14);
        price("1+(2+(3+(4+5*6)*2)*2)*2", 289);
        price("1*2+3*(4-5*(6-7*(8-9/(1+2))))-2*3", 443);
        price("1+2*(1+2*(1+2*(1+2*(1+2*3))))", 127);
        price("000000000000000000012", 12);
        price("hole", 1);
        price("shown+10*kinds+100*depth", 121);
    }

    private static void priceOfView() {
        PeepBox box = Check.loaded("box 3 1 3;plane .b.;plane c..;plane xyz;hole 0 0;hole 2 0;"
                + "viewer 0 c 1;viewer 0 x 1;price shown*100+kinds*10+depth+hole;");
        CHECK.same("price(0, 0)", box.price(0, 0), 222);
        CHECK.same("price(1, 0)", box.price(1, 0), 22);
        CHECK.same("price(0, 1)", box.price(0, 1), 34);
        CHECK.same("price(1, 1)", box.price(1, 1), 134);
        box.pull(1, 1);
        CHECK.same("price(0, 0) when pulled", box.price(0, 0), 33);
        CHECK.same("price(1, 0) when pulled", box.price(1, 0), 133);
        box.undo();
        CHECK.same("price(0, 0) after undo", box.price(0, 0), 222);
        PeepBox plain = Check.loaded("box 3 2 1;plane aab aac;viewer 1 a 99;viewer 1 z 99;");
        CHECK.same("1 + shown", plain.price(0, 0), 5);
        CHECK.same("1 + nothing", plain.price(1, 0), 1);
    }

    /** The price is by the view at the end of the look, and may be more than the viewer has. */
    private static void dearerLook() {
        PeepBox box = Check.loaded("box 1 1 2;plane a;plane b;price shown*9;length 2;"
                + "viewer 0 b 5;viewer 0 b 5;viewer 0 b 9;");
        box.pass(1);
        box.pull(0, 1);
        CHECK.same("price has risen", box.price(0, 0), 9);
        CHECK.same("foretold", box.foretold(2, 0), 5);
        CHECK.same("pays all coins", box.pass(2), 5);
        viewer(box, 0, 0, 1, 0, 2, -1, 0, 5);
        CHECK.same("second went, for the price has risen", box.viewer(1, 3), 3);
        CHECK.same("third can pay", box.viewer(2, 3), 1);
        box.pull(0, 0);
        CHECK.same("price has fallen", box.pass(2), 0);
        CHECK.same("third left", box.viewer(2, 3), 2);
        CHECK.sameFloat("meanPaid", box.meanPaid(), 2.5f);
        PeepBox thirds = Check.loaded("box 1 1 1;price 1+2*hole;length 1;hole 0 0;hole 0 0;hole 0 0;"
                + "viewer 0 a 9;viewer 0 a 9;viewer 0 a 9;");
        thirds.pass(2);
        CHECK.sameFloat("meanPaid", thirds.meanPaid(), 3f);
        PeepBox odd = Check.loaded("box 1 1 1;price 1;length 1;viewer 0 b 1;viewer 0 b 1;viewer 0 b 1;");
        odd.pass(1);
        odd.pass(1);
        CHECK.sameFloat("meanPaid", odd.meanPaid(), 1f);
        PeepBox ratio = Check.loaded("box 1 1 1;price hole*hole/2;length 1;hole 0 0;hole 0 0;hole 0 0;"
                + "viewer 0 b 9;viewer 0 b 9;viewer 0 b 9;");
        ratio.pass(2);
        CHECK.sameFloat("meanPaid is a float", ratio.meanPaid(), 2f / 3f);
    }

    private static void longLooks() {
        PeepBox box = Check.loaded("box 1 1 1;price 0;length 20;" + "viewer 0 a 0;".repeat(20));
        CHECK.same("emptyIn of 20 looks of 20 ticks", box.emptyIn(), 401);
        CHECK.same("foretold who waits", box.foretold(100, 1), 15);
        CHECK.same("foretold who looks", box.foretold(100, 2), 1);
        box.pass(1);
        box.length(1);
        CHECK.same("the look that has begun stays", box.viewer(0, 5), 20);
        CHECK.same("emptyIn", box.emptyIn(), 39);
        box.pass(50);
        CHECK.same("emptyIn", box.emptyIn(), 0);
        CHECK.same("who left", box.state(10), 20);
    }

    private static void wrongCalls() {
        PeepBox box = Check.loaded(TWO_HOLES);
        for (int wrong : new int[] {-1, 5, 20, Integer.MIN_VALUE, Integer.MAX_VALUE}) {
            CHECK.outside("viewer", () -> box.viewer(wrong, 0));
            CHECK.outside("viewer ahead of what", () -> box.viewer(wrong, 7));
            CHECK.outside("price viewer", () -> box.price(wrong, 0));
            CHECK.outside("price hole", () -> box.price(0, wrong));
        }
        CHECK.outside("price hole", () -> box.price(0, 2));
        for (int wrong : new int[] {-1, 7, Integer.MIN_VALUE, Integer.MAX_VALUE}) {
            CHECK.illegal("viewer what", () -> box.viewer(0, wrong));
        }
        long before = box.checksum();
        for (int wrong : new int[] {0, -1, 51, Integer.MIN_VALUE, Integer.MAX_VALUE}) {
            CHECK.illegal("pass", () -> box.pass(wrong));
        }
        CHECK.same("a throwing pass changes nothing", box.checksum(), before);
        CHECK.same("a throwing pass is no change", box.undo(), 0);
    }
}
