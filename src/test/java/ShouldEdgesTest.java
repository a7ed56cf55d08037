import java.io.IOException;

/** TURN, CART AT, PAIRS and BOUND, sentence by sentence; promises 16 to 18 at their edges. */
public final class ShouldEdgesTest {
    private static final Check CHECK = new Check();
    private static final int BAD = FacingDoors.BAD, NONE = FacingDoors.NONE;
    private static final int[] FAR_OFF = {Integer.MIN_VALUE, -1000000, -10, -3, 6, 7, 100, Integer.MAX_VALUE};
    private static final String SQUARE = "w7;" + "rfffffff;".repeat(7);

    private static void turned(String why, Doors x, int due, int many, int... facing) {
        CHECK.due(why + ": how much", x.turn(-1), due);
        CHECK.due(why + ": how many", x.turn(-2), many);
        for (int d = 0; d < facing.length; d++) {
            CHECK.due(why + ": door " + d, x.turn(d), facing[d]);
        }
        CHECK.due(why + ": the first that there is not", x.turn(facing.length), BAD);
        CHECK.due(why + ": -3", x.turn(-3), BAD);
    }

    // ---- promise 16

    private static void turnAsked() throws IOException {
        CHECK.says("`int turn(int d)`: TURN: FACING of a DOOR; d = -1 how much, -2 how many are TURNED; NONE. BAD.");
        turned("a new object", new Doors(), 0, 0);
        turned("cells without doors", Check.quarterOf(SQUARE), 0, 0);
        turned("one door", Check.quarterOf("w2;rff;d0 0 1;"), 0, 0, 1);
        Doors six = Check.quarterOf("w7;rfffffff;rfffffff;d0 0 2;d1 0 2;d2 0 2;d3 0 2;d4 0 2;d6 0 2;");
        turned("six", six, 0, 0, 2, 2, 2, 2, 2, 2);
        for (int far : FAR_OFF) {
            CHECK.due("turn " + far, six.turn(far), BAD);
        }
        Doors none = Check.quarterOf("w1;rf;d0 0 1;");
        for (int d = -2; d <= 0; d++) {
            CHECK.due("no way, turn " + d, none.turn(d), NONE);
        }
        for (int far : FAR_OFF) {
            CHECK.due("no way, turn " + far, none.turn(far), BAD);
        }
        CHECK.due("no way, the first that there is not", none.turn(1), BAD);
    }

    private static void least() throws IOException {
        CHECK.says("that by which DUES of all together are least");
        // Each must see the other one, and stare.
        turned("no other way", Check.quarterOf("w3;rfff;d0 0 1;d2 0 3;p9;"), 36, 0, 1, 3);
        turned("turned away", Check.quarterOf("w3;rfff;rfff;d0 0 1;d2 0 3;p9;"), 0, 2, 2, 2);
        turned("one may turn away", Check.quarterOf("w3;rfff;rxff;d0 0 1;d2 0 3;p9;"), 9, 1, 1, 2);
        turned("the most that can be", Check.quarterOf("w3;rfff;rxxx;rfff;rxxx;rfff;"
            + "d0 0 1;d2 0 3;d0 2 1;d2 2 3;d0 4 1;d2 4 3;p9;"), 108, 0, 1, 3, 1, 3, 1, 3);
    }

    private static void fewest() throws IOException {
        CHECK.says("then fewest DOORS are TURNED");
        // 1, 2 and 3 are all ways in that owe nothing: none is turned that need not be.
        for (int way = 1; way <= 3; way++) {
            turned("left as it is", Check.quarterOf("w3;rfff;rfff;d1 0 " + way + ";"), 0, 0, way);
        }
        // Door 0 has a way in and sees none; door 1 has none yet.
        turned("one of both", Check.quarterOf("w3;rfff;rfff;d0 0 2;d2 0 0;"), 0, 1, 2, 2);
        // Door 1 looks away already: door 0 alone is turned.
        turned("one turns away", Check.quarterOf("w6;rffffff;d1 0 1;d4 0 1;"), 0, 1, 3, 1);
        // To owe less comes first, though both are turned for it.
        turned("both turn away", Check.quarterOf("w6;rffffff;d1 0 1;d4 0 3;"), 0, 2, 3, 1);
    }

    private static void theFirst() throws IOException {
        CHECK.says("of several the first (FACING of DOOR 0, then 1, ..)");
        turned("the least facing", Check.quarterOf("w3;rfff;rfff;d1 0 0;"), 0, 1, 1);
        // Each can look right or left: of four ways the first.
        turned("door 0, then 1", Check.quarterOf("w3;rfff;rfff;rfff;d1 0 0;d1 2 2;"), 0, 2, 1, 1);
        // Each must see somebody. 4 and 5 stare: either 4 is turned (to 1) or 5 (to 3), and 4 at 1 comes ahead of 4 at 2.
        turned("door 4 or 5", Check.quarterOf(SQUARE + "d0 0 1;d6 0 2;d6 6 3;d0 6 0;d3 0 2;d3 6 0;"),
            6, 1, 1, 2, 3, 0, 1, 0);
        // Either 4 is turned (to 1) or 5 (to 3), and 4 left at 0 comes ahead of 4 at 1.
        turned("door 4 or 5, from below", Check.quarterOf(SQUARE + "d0 0 2;d6 0 3;d6 6 0;d0 6 1;d3 6 0;d3 0 2;"),
            6, 1, 2, 3, 0, 1, 0, 3);
    }

    private static void asNow() throws IOException {
        CHECK.says("(those on their CELLS, open as NOW)");
        Doors x = Check.quarterOf("w3;rfff;rfff;d0 0 1;d2 0 3;");
        x.opens(0, 0);
        // A shut one owes nothing, so it is left; the other one turns away.
        turned("one is shut", x, 0, 1, 1, 2);
        x.opens(1, 0);
        turned("both are shut", x, 0, 0, 1, 3);
        Doors foggy = Check.quarterOf("w3;rfff;d0 0 0;d2 0 3;p9;");
        foggy.fog(1);
        turned("fog", foggy, 0, 1, 1, 3);
        Doors moved = Check.quarterOf("w3;rfff;rxxf;d0 0 1;d2 0 3;");
        turned("ahead of the move", moved, 1, 1, 1, 2);
        moved.moves(1, 2);
        turned("behind the move", moved, 0, 1, 1, 0);
    }

    private static void noSuchWay() throws IOException {
        CHECK.says("NONE (there is no such way)");
        Doors x = Check.quarterOf("w2;rff;rxf;d0 0 2;");
        turned("a way in", x, 0, 1, 1);
        x.cart(1, 0, 1);
        for (int d = -2; d <= 0; d++) {
            CHECK.due("shut in by a cart, turn " + d, x.turn(d), NONE);
        }
        x.opens(0, 0);
        CHECK.due("a shut one must have its way in, too", x.turn(-1), NONE);
        x.undo();
        x.undo();
        turned("undone", x, 0, 1, 1);
        Doors last = Check.quarterOf("w4;rffxf;d0 0 1;d3 0 0;");
        CHECK.due("the last one has none", last.turn(0), NONE);
        Doors trees = Check.quarterOf("w2;rft;d0 0 1;");
        trees.leaf(0);
        CHECK.due("a bare tree is none", trees.turn(0), NONE);
    }

    private static void nothingChanges() throws IOException {
        CHECK.says("(Nothing is changed.)");
        Doors x = Check.quarterOf("w4;rffff;rffff;d0 0 1;d3 0 3;p2;");
        x.bills();
        String was = Check.picture(x);
        for (int d = -3; d <= 2; d++) {
            x.turn(d);
            x.bound(d);
            x.open(d);
            x.odds(5, 4, d);
            x.mean(5, d);
        }
        x.cartAt();
        CHECK.same("behind all that asks", Check.picture(x), was);
        CHECK.due("undo", x.undo() * 10 + x.now(7), 0);
    }

    // ---- promise 17

    private static void cartAt(String why, String text, int want) {
        Doors x = Check.quarterOf(text);
        CHECK.due(why, x.cartAt(), want);
        if (want >= 0) {
            int was = x.now(0);
            CHECK.due(why + ": it can be parked there", x.cart(want % 10, want / 10, 1), 1);
            CHECK.due(why + ": less is due", x.now(0) < was ? 1 : 0, 1);
        }
    }

    private static void relief() throws IOException {
        CHECK.says("CART AT: the CELL for one more CART by which DUES of all are least, if less than NOW");
        CHECK.due("a new object", new Doors().cartAt(), NONE);
        cartAt("no doors", SQUARE, NONE);
        cartAt("nobody sees", "w3;rfff;d0 0 0;d2 0 1;", NONE);
        cartAt("no cell between", "w2;rff;d0 0 1;d1 0 3;", NONE);
        cartAt("the only cell", "w3;rfff;d0 0 1;d2 0 0;", 1);
        cartAt("who stares owes more", "w3;rfff;rfff;d0 0 1;d2 0 0;d0 1 1;d2 1 3;", 11);
        cartAt("one line of two doors", "w3;rfff;rfff;d0 0 1;d2 0 0;d0 1 1;d2 1 0;p9;", 1);
        // Row 2 and column 3 cross on 3 2: there one cart takes 1 and 1, on any other cell 1.
        cartAt("where two lines cross", SQUARE + "d0 2 1;d6 2 0;d3 0 2;d3 6 1;", 23);
        Doors bare = Check.quarterOf("w3;rftf;d0 0 1;d2 0 3;");
        bare.leaf(0);
        CHECK.due("not on a bare tree", bare.cartAt(), NONE);
        Doors foggy = Check.quarterOf("w3;rfff;d0 0 1;d2 0 3;");
        foggy.fog(1);
        CHECK.due("nothing is due in fog", foggy.cartAt(), NONE);
        foggy.fog(0);
        foggy.opens(0, 0);
        CHECK.due("one is shut", foggy.cartAt(), 1);
        foggy.opens(1, 0);
        CHECK.due("both are shut", foggy.cartAt(), NONE);
        foggy.opens(1, 1);
        foggy.cart(1, 0, 1);
        CHECK.due("there is one already", foggy.cartAt(), NONE);
    }

    private static void ofSeveralCells() throws IOException {
        CHECK.says("of several the lowest y, then x: 10 times y and x; NONE.");
        cartAt("the lowest x", "w7;rfffffff;d0 0 1;d6 0 3;", 1);
        cartAt("the lowest y", SQUARE + "d0 0 2;d0 6 0;", 10);
        cartAt("y ahead of x", SQUARE + "d0 2 1;d2 2 0;d4 0 2;d4 2 1;", 14);
        cartAt("the greatest there is", SQUARE + "d4 6 1;d6 6 3;", 65);
        cartAt("the last column", SQUARE + "d6 4 2;d6 6 0;", 56);
        cartAt("x of two digits is none", SQUARE + "d0 6 1;d2 6 3;", 61);
    }

    // ---- PAIRS

    private static void pairs() throws IOException {
        CHECK.says("PAIRS: how many twos of DOORS STARE at one another (each at the other) by SIGHT and all as NOW.");
        CHECK.due("a new object", new Doors().now(3), 0);
        CHECK.due("one", Check.quarterOf("w7;rfffffff;d0 0 1;d6 0 3;").now(3), 1);
        CHECK.due("one does not look back", Check.quarterOf("w7;rfffffff;d0 0 1;d6 0 0;").now(3), 0);
        CHECK.due("as far as sight", Check.quarterOf("w7;rfffffff;d0 0 1;d6 0 3;s6;").now(3), 1);
        CHECK.due("too far", Check.quarterOf("w7;rfffffff;d0 0 1;d6 0 3;s5;").now(3), 0);
        CHECK.due("one between", Check.quarterOf("w7;rfffffff;d0 0 1;d6 0 3;d3 0 0;").now(3), 0);
        CHECK.due("the last two of six",
            Check.quarterOf(SQUARE + "d0 0 0;d1 0 0;d2 0 0;d3 0 0;d0 6 1;d6 6 3;").now(3), 1);
        Doors x = Check.quarterOf("w7;rffftfff;d0 0 1;d6 0 3;");
        CHECK.due("a tree", x.now(3), 0);
        x.leaf(0);
        CHECK.due("a bare tree", x.now(3), 1);
        x.opens(0, 0);
        CHECK.due("one is shut", x.now(3), 0);
        x.undo();
        x.opens(1, 0);
        CHECK.due("the other one is shut", x.now(3), 0);
        x.undo();
        x.cart(1, 0, 1);
        CHECK.due("a cart", x.now(3), 0);
        x.undo();
        x.fog(1);
        CHECK.due("fog", x.now(3), 0);
    }

    // ---- promise 18

    private static void bounds(String why, Doors x, int many, int first) {
        CHECK.due(why + ": how many", x.bound(0), many);
        CHECK.due(why + ": the first", x.bound(1), first);
        CHECK.due(why + ": -1", x.bound(-1), BAD);
        CHECK.due(why + ": 2", x.bound(2), BAD);
    }

    private static void boundAsked() throws IOException {
        CHECK.says("`int bound(int what)`: BOUND: "
            + "how many (what = 0; NONE: no way by which each has a WAY IN), the first (1; NONE). BAD.");
        bounds("a new object", new Doors(), 0, NONE);
        bounds("cells without doors", Check.quarterOf(SQUARE), 0, NONE);
        bounds("one door", Check.quarterOf("w2;rff;d0 0 1;"), 0, NONE);
        bounds("no way in", Check.quarterOf("w1;rf;d0 0 1;"), NONE, NONE);
        bounds("bound, but a third has no way in",
            Check.quarterOf("w3;rfff;rxxx;rfxx;d0 0 1;d2 0 3;d0 2 0;"), NONE, NONE);
        bounds("side by side, and no way in", Check.quarterOf("w2;rff;d0 0 1;d1 0 3;"), NONE, NONE);
        Doors x = Check.quarterOf("w3;rfff;d0 0 0;d2 0 0;");
        bounds("however they are facing now", x, 1, 1);
        for (int far : new int[] {Integer.MIN_VALUE, -9, 3, 10, Integer.MAX_VALUE}) {
            CHECK.due("bound " + far, x.bound(far), BAD);
        }
    }

    private static void bound() throws IOException {
        CHECK.says("twos of DOORS (10 times the lesser and the other one) such that, however all are FACING with a WAY IN");
        bounds("the last two", Check.quarterOf("w7;rfffffff;rfffffff;rxxxxxxx;rfffxxxx;"
            + "d0 0 0;d2 0 0;d4 0 0;d6 0 0;d0 3 0;d2 3 0;"), 1, 45);
        bounds("three twos", Check.quarterOf("w3;rfff;rxxx;rfff;rxxx;rfff;"
            + "d0 0 0;d2 4 0;d0 2 0;d2 2 0;d0 4 0;d2 0 0;"), 3, 5);
        // 0 and 1 each look at the one in the midst, which can look at both of them: two twos, but not 0 and 1.
        bounds("a third in the midst", Check.quarterOf("w7;rfffffff;d0 0 0;d6 0 0;d3 0 0;"), 2, 2);
        bounds("one of both must", Check.quarterOf("w3;rfff;rxff;d0 0 0;d2 0 0;"), 1, 1);
        // Door 0 has this way in alone, and sees door 1 by it; door 1 can look away.
        String[] only = {"w2;rff;rfx;rfx;d0 2 3;d0 0 3;", "w3;rfff;rxxf;d0 0 0;d2 0 0;",
            "w2;rfx;rfx;rff;d0 0 0;d0 2 0;", "w3;rfff;rfxx;d2 0 0;d0 0 0;"};
        for (int way = 0; way < 4; way++) {
            bounds("the way in is " + way, Check.quarterOf(only[way]), 1, 1);
            CHECK.due("so door 0 is turned there", Check.quarterOf(only[way]).turn(0), way);
        }
        bounds("neither must", Check.quarterOf("w3;rfff;rfff;d0 0 1;d2 0 3;"), 0, NONE);
        bounds("as far as sight", Check.quarterOf("w5;rfffff;d0 0 0;d4 0 0;s4;"), 1, 1);
        bounds("too far", Check.quarterOf("w5;rfffff;d0 0 0;d4 0 0;s3;"), 0, NONE);
    }

    /**
     * Walls, and door 0 in their midst. It can look that way at door 1, which can look away; it can look the other way,
     * too, at nobody.
     */
    private static Doors amongWalls(int way, int other) {
        int[] stepX = {0, 1, 0, -1}, stepY = {-1, 0, 1, 0};
        StringBuilder cells = new StringBuilder("x".repeat(49));
        for (int far = 0; far <= 3; far++) {
            cells.setCharAt(24 + far * (stepX[way] + 7 * stepY[way]), 'f');
        }
        cells.setCharAt(24 + stepX[other] + 7 * stepY[other], 'f');
        StringBuilder text = new StringBuilder("w7;");
        for (int y = 0; y < 7; y++) {
            text.append("r" + cells.substring(7 * y, 7 * y + 7) + ";");
        }
        return Check.quarterOf(text + "d3 3 0;d" + (3 + 2 * stepX[way]) + " " + (3 + 2 * stepY[way]) + " 0;");
    }

    private static void everyWayIn() throws IOException {
        CHECK.says("however all are FACING with a WAY IN for each");
        for (int way = 0; way < 4; way++) {
            for (int other = 0; other < 4; other++) {
                boolean must = way == other;
                bounds("ways in " + way + " and " + other, amongWalls(way, other), must ? 1 : 0, must ? 1 : NONE);
                CHECK.due("least is owed by " + other, amongWalls(way, other).turn(0), other);
            }
        }
    }

    private static void asIfOpen() throws IOException {
        CHECK.says("one of both SEES the other one, were all open and no fog: how many; the first; NONE.");
        Doors x = Check.quarterOf("w3;rfff;d0 0 1;d2 0 3;");
        x.opens(0, 0);
        x.opens(1, 0);
        bounds("both are shut", x, 1, 1);
        x.fog(1);
        bounds("in fog", x, 1, 1);
        Doors tree = Check.quarterOf("w5;rfftff;d0 0 1;d4 0 3;");
        bounds("a tree in leaf", tree, 0, NONE);
        tree.leaf(0);
        bounds("a bare tree", tree, 1, 1);
        Doors cart = Check.quarterOf("w5;rfffff;d0 0 1;d4 0 3;");
        bounds("no cart", cart, 1, 1);
        cart.cart(2, 0, 1);
        bounds("a cart between", cart, 0, NONE);
        cart.cart(1, 0, 1);
        bounds("a cart in the way in", cart, NONE, NONE);
    }

    public static void main(String[] args) throws IOException {
        turnAsked();
        least();
        fewest();
        theFirst();
        asNow();
        noSuchWay();
        nothingChanges();
        relief();
        ofSeveralCells();
        pairs();
        boundAsked();
        bound();
        everyWayIn();
        asIfOpen();
        CHECK.end();
    }
}
