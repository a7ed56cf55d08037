/** Promises 16 to 18: turn, cartAt, bound. */
public final class ShouldTest {
    private static final Check CHECK = new Check();
    private static final int BAD = FacingDoors.BAD, NONE = FacingDoors.NONE;

    private static void turned(String why, Doors x, int due, int many, int... facing) {
        String was = Check.picture(x);
        CHECK.due(why + ": how much", x.turn(-1), due);
        CHECK.due(why + ": how many", x.turn(-2), many);
        for (int d = 0; d < facing.length; d++) {
            CHECK.due(why + ": facing of " + d, x.turn(d), facing[d]);
        }
        CHECK.due(why + ": facing of none", x.turn(facing.length), BAD);
        CHECK.same(why + ": nothing is changed", Check.picture(x), was);
    }

    private static void turn() {
        Doors x = Check.quarterOf(Check.THREE);
        turned("three", x, 3, 2, 2, 2, 3);
        CHECK.due("turn -3", x.turn(-3), BAD);
        CHECK.due("turn, least", x.turn(Integer.MIN_VALUE), BAD);
        // A shut door owes nothing, so the one that can't but see is left as it is.
        Doors shut = Check.quarterOf(Check.THREE);
        shut.opens(1, 0);
        turned("door 1 shut", shut, 0, 2, 2, 2, 3);
        Doors foggy = Check.quarterOf(Check.THREE);
        foggy.fog(1);
        turned("fog", foggy, 0, 0, 1, 2, 0);
        turned("they stare", Check.quarterOf(Check.STREET), 8, 0, 1, 3);
        turned("price", Check.quarterOf("w3;rfff;d0 0 1;d2 0 3;p9;"), 36, 0, 1, 3);
        // Of 1, 2 and 3 (0 leads out) none owes anything and each is one turn: the first is taken.
        turned("the first", Check.quarterOf("w3;rfff;rfff;d1 0 0;"), 0, 1, 1);
        turned("none to be turned", Check.quarterOf("w3;rfff;rfff;d1 0 3;"), 0, 0, 3);
        // Either of two may turn away; the first way has the lesser facing of door 0.
        turned("one of two", Check.quarterOf("w3;rfff;rfff;d0 0 1;d2 0 3;"), 0, 2, 2, 2);
        // Door 0 must look at door 1; that one looks away rather than back, though it has to be turned.
        turned("half is better", Check.quarterOf("w3;rfff;rxff;d0 0 1;d2 0 3;"), 1, 1, 1, 2);
    }

    private static void noWay() {
        Doors x = Check.quarterOf("w2;rff;d0 0 1;d1 0 3;");
        for (int d = -2; d < 2; d++) {
            CHECK.due("no way in, turn " + d, x.turn(d), NONE);
        }
        CHECK.due("no way in, turn 2", x.turn(2), BAD);
        CHECK.due("no way in, bound 0", x.bound(0), NONE);
        CHECK.due("no way in, bound 1", x.bound(1), NONE);
        CHECK.due("no way in, bound 2", x.bound(2), BAD);
        Doors one = Check.quarterOf("w3;rffx;rxxf;d0 0 1;d2 1 0;");
        CHECK.due("one of both has no way in", one.turn(0), NONE);
        Doors zero = Check.quarterOf("w4;rfxff;d0 0 1;d2 0 1;");
        CHECK.due("door 0 has no way in", zero.turn(1), NONE);
        CHECK.due("door 0 has no way in, bound", zero.bound(0), NONE);
        CHECK.due("one of both has no way in, bound", one.bound(0), NONE);
    }

    private static void cartAt() {
        Doors x = Check.quarterOf(Check.THREE);
        CHECK.due("between both that stare", x.cartAt(), 13);
        x.cart(3, 1, 1);
        CHECK.due("of two cells the first", x.cartAt(), 1);
        x.cart(1, 0, 1);
        CHECK.due("nothing left", x.cartAt(), NONE);
        Doors bare = Check.quarterOf("w4;rftff;d0 0 1;d3 0 0;");
        CHECK.due("nobody sees", bare.cartAt(), NONE);
        bare.leaf(0);
        CHECK.due("not on a tree", bare.cartAt(), 2);
        bare.opens(0, 0);
        CHECK.due("all that see are shut", bare.cartAt(), NONE);
        bare.undo();
        bare.fog(1);
        CHECK.due("fog", bare.cartAt(), NONE);
        CHECK.due("side by side", Check.quarterOf("w2;rff;d0 0 1;d1 0 3;").cartAt(), NONE);
        // Where two lines cross, one cart relieves both.
        CHECK.due("a crossing", Check.quarterOf("w3;rfff;rfff;rfff;d0 1 1;d2 1 0;d1 2 0;d1 0 1;").cartAt(), 11);
        CHECK.due("in the first column", Check.quarterOf("w2;rff;rff;rff;d0 0 2;d0 2 0;").cartAt(), 10);
        // A cell of row 0 and one of row 1 relieve alike: y comes ahead of x.
        CHECK.due("the lowest y", Check.quarterOf("w3;rfff;rfff;d0 1 1;d2 1 2;d0 0 1;d2 0 2;").cartAt(), 1);
        CHECK.due("the lowest y, not x", Check.quarterOf("w4;rxfff;rffff;d0 1 1;d2 1 2;d1 0 1;d3 0 2;").cartAt(), 2);
    }

    private static void bounds(String why, Doors x, int many, int first) {
        CHECK.due(why + ": how many", x.bound(0), many);
        CHECK.due(why + ": the first", x.bound(1), first);
        CHECK.due(why + ": 2", x.bound(2), BAD);
        CHECK.due(why + ": -1", x.bound(-1), BAD);
    }

    private static void bound() {
        Doors x = Check.quarterOf(Check.THREE);
        bounds("three", x, 0, NONE);
        x.cart(2, 0, 1);
        bounds("door 1 must look down", x, 1, 12);
        x.opens(1, 0);
        x.fog(1);
        bounds("as if open, without fog", x, 1, 12);
        bounds("street", Check.quarterOf(Check.STREET), 1, 1);
        bounds("too far to be seen", Check.quarterOf("w3;rfff;d0 0 1;d2 0 3;s1;"), 0, NONE);
        // 1 must look at 0, 3 must look at 2: each of the two rows is shut in.
        bounds("two", Check.quarterOf("w3;rfff;rxxx;rfff;d0 0 1;d2 0 3;d0 2 1;d2 2 3;"), 2, 1);
        bounds("the latter sees", Check.quarterOf("w3;rfff;rffx;d0 0 2;d2 0 3;"), 1, 1);
        // Door 0 can look up at nobody, so it need not look at door 1.
        bounds("up is a way in", Check.quarterOf("w3;rfxf;rfff;rxxf;d0 1 1;d2 1 2;"), 0, NONE);
        bounds("up is the way in", Check.quarterOf("w1;rf;rf;rf;rf;d0 2 0;d0 0 2;"), 1, 1);
        bounds("up is the only way in", Check.quarterOf("w2;rff;rfx;rfx;d0 2 0;d0 0 1;"), 1, 1);
        bounds("a tree in leaf", Check.quarterOf("w4;rfftf;d0 0 1;"), 0, NONE);
        Doors tree = Check.quarterOf("w5;rfftff;d0 0 1;d4 0 3;");
        bounds("a tree between", tree, 0, NONE);
        tree.leaf(0);
        bounds("a bare tree between", tree, 1, 1);
    }

    public static void main(String[] args) {
        turn();
        noWay();
        cartAt();
        bound();
        CHECK.end();
    }
}
