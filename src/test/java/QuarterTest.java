/** Promises 5, 6, 15 and 27: cell, door, now, count. */
public final class QuarterTest {
    private static final Check CHECK = new Check();

    private static void cells() {
        Doors x = Check.quarterOf(Check.THREE);
        int[][] want = {{10, 0, 0, 11}, {0, 1, 2, 0}, {0, 0, 0, 12}};
        for (int y = 0; y < 3; y++) {
            for (int at = 0; at < 4; at++) {
                CHECK.due("cell " + at + " " + y, x.cell(at, y), want[y][at]);
            }
        }
        x.cart(2, 2, 1);
        CHECK.due("cell with a cart", x.cell(2, 2), 3);
        CHECK.due("cell -1 0", x.cell(-1, 0), FacingDoors.BAD);
        CHECK.due("cell 4 0", x.cell(4, 0), FacingDoors.BAD);
        CHECK.due("cell 0 -1", x.cell(0, -1), FacingDoors.BAD);
        CHECK.due("cell 0 3", x.cell(0, 3), FacingDoors.BAD);
        CHECK.due("cell far off", x.cell(Integer.MIN_VALUE, Integer.MAX_VALUE), FacingDoors.BAD);
    }

    private static void doors() {
        Doors x = Check.quarterOf(Check.THREE);
        int[][] want = {
            {0, 0, 1, 1, 2, 3, 1, 0, 0},
            {3, 0, 2, 1, 4, 6, 1, 5, 0},
            {3, 2, 0, 1, 2, 6, 1, 2, 0},
        };
        for (int d = 0; d < 3; d++) {
            for (int what = 0; what < 9; what++) {
                CHECK.due("door " + d + " " + what, x.door(d, what), want[d][what]);
            }
            CHECK.due("door " + d + " -1", x.door(d, -1), FacingDoors.BAD);
            CHECK.due("door " + d + " 9", x.door(d, 9), FacingDoors.BAD);
        }
        CHECK.due("door -1", x.door(-1, 0), FacingDoors.BAD);
        CHECK.due("door 3", x.door(3, 0), FacingDoors.BAD);
    }

    private static void seen(String text, int d, int bits) {
        CHECK.due("in " + text + " door " + d + " sees", Check.quarterOf(text).door(d, 4), bits);
    }

    private static void whatStandsBetween() {
        seen("w5;rfffff;d0 0 1;d4 0 1;", 0, 2);
        seen("w5;rfffff;d0 0 1;d4 0 1;", 1, 0);
        seen("w5;rfffff;d0 0 1;d4 0 1;s4;", 0, 2);
        seen("w5;rfffff;d0 0 1;d4 0 1;s3;", 0, 0);
        seen("w5;rffxff;d0 0 1;d4 0 1;", 0, 0);
        seen("w5;rfftff;d0 0 1;d4 0 1;", 0, 0);
        seen("w5;rfffff;d0 0 1;d4 0 1;d2 0 0;", 0, 4);
        seen("w2;rff;d0 0 1;d1 0 0;s1;", 0, 2);
        seen("w1;rf;rf;rf;rf;rf;rf;rf;d0 6 0;d0 0 1;", 0, 2);
        seen("w2;rff;rff;d0 0 1;d0 1 0;", 1, 1);
        Doors x = Check.quarterOf("w5;rfftff;d0 0 1;d4 0 3;");
        CHECK.due("bare trees hide nothing", x.leaf(0), 4);
        CHECK.due("a shut one is seen all the same", x.opens(1, 0) + 10 * x.door(0, 5) + 100 * x.now(3), 20);
        x.cart(1, 0, 1);
        CHECK.due("a cart hides", x.door(0, 4), 0);
        x.undo();
        x.fog(1);
        CHECK.due("fog hides", x.door(0, 4) + x.now(0), 0);
        CHECK.due("fog leaves the way in", x.door(0, 6), 1);
    }

    private static void wayIn(String text, int want) {
        CHECK.due("way in in " + text, Check.quarterOf(text).now(2), want);
    }

    private static void waysIn() {
        wayIn("w1;rf;d0 0 0;", 0);
        wayIn("w1;rf;rf;d0 0 2;", 1);
        wayIn("w1;rf;rx;d0 0 2;", 0);
        wayIn("w1;rf;rt;d0 0 2;", 0);
        wayIn("w1;rf;rf;rf;d0 0 2;d0 1 2;", 2);
        Doors x = Check.quarterOf("w3;rtff;d1 0 1;");
        CHECK.due("a way in", x.now(2), 1);
        x.cart(2, 0, 1);
        CHECK.due("none into a cart", x.now(2), 0);
        x.hinges(0, 3);
        x.leaf(0);
        CHECK.due("none into a bare tree", x.now(2), 0);
        x.undo();
        x.undo();
        x.undo();
        x.opens(0, 0);
        CHECK.due("a shut one has its way in", x.now(2), 1);
    }

    private static void nowAndCount() {
        Doors x = Check.quarterOf(Check.THREE + "s5;");
        x.bills();
        x.cart(1, 0, 1);
        x.opens(2, 0);
        x.leaf(0);
        x.tells(0, 0);
        x.type('w');
        int[] nows = {6, 3, 6, 0, 1, 0, 0, 15};
        int[] counts = {4, 3, 3, 3, 5, 1, 4, 1};
        for (int what = 0; what < 8; what++) {
            CHECK.due("now " + what, x.now(what), nows[what]);
            CHECK.due("count " + what, x.count(what), counts[what]);
        }
        x.fog(1);
        CHECK.due("now 6", x.now(6), 1);
        int[] wrong = {-1, 8, Integer.MAX_VALUE, Integer.MIN_VALUE};
        for (int what : wrong) {
            CHECK.due("now " + what, x.now(what), FacingDoors.BAD);
            CHECK.due("count " + what, x.count(what), FacingDoors.BAD);
        }
    }

    private static void pairs() {
        CHECK.due("pairs of three", Check.quarterOf(Check.THREE).now(3), 1);
        Doors x = Check.quarterOf("w3;rfff;rfff;d0 0 1;d2 0 3;d2 1 3;d0 1 1;");
        CHECK.due("two pairs", x.now(3), 2);
        x.opens(3, 0);
        CHECK.due("one is shut", x.now(3), 1);
        x.hinges(0, 0);
        CHECK.due("one looks away", x.now(3), 0);
        x.undo();
        x.fog(1);
        CHECK.due("none in fog", x.now(3), 0);
    }

    public static void main(String[] args) {
        cells();
        doors();
        whatStandsBetween();
        waysIn();
        nowAndCount();
        pairs();
        CHECK.end();
    }
}
