import java.io.IOException;

/** KINDS, THE TRACE and IMAGES, sentence by sentence; promises 24 to 26 and 28 at their edges. */
public final class KindsEdgesTest {
    private static final Check CHECK = new Check();
    private static final int BAD = FacingDoors.BAD, STATE = FacingDoors.STATE, NO = FacingDoors.NO;
    private static final int[] FAR_OFF = {Integer.MIN_VALUE, -10, 7, 100, Integer.MAX_VALUE};
    /** Door 0 sees door 1, which sees none; 2 may be seen by none. */
    private static final String THREE = "w3;rfff;rfff;d0 0 1;d2 0 0;d0 1 3;p9;";
    /** All that is NOW, as those calls tell it. */
    private static final int[] STATE_OF_DOOR = {0, 1, 2, 3, 8};

    // ---- promise 24

    private static void markAsked() throws IOException {
        CHECK.says("`int mark(int kind, int d)`: MARK. NO: BAD.");
        CHECK.due("of a new object", new Doors().mark(0, 0), NO);
        Doors x = Check.quarterOf(THREE);
        for (int kind = 0; kind <= 5; kind++) {
            CHECK.due("kind " + kind + " of -1", x.mark(kind, -1), NO);
            CHECK.due("kind " + kind + " of 3", x.mark(kind, 3), NO);
            CHECK.due("kind " + kind + " of the first", x.mark(kind, 0) == NO ? 1 : 0, 0);
            CHECK.due("kind " + kind + " of the last", x.mark(kind, 2) == NO ? 1 : 0, 0);
        }
        CHECK.due("kind -1", x.mark(-1, 0), NO);
        CHECK.due("kind 6", x.mark(6, 0), NO);
        for (int far : FAR_OFF) {
            CHECK.due("kind " + far, x.mark(far, 0), NO);
            CHECK.due("door " + far, x.mark(0, far), NO);
        }
    }

    private static void belowZero() throws IOException {
        CHECK.says("The constants: `NO = -1000000`: What none is, where a number may be below 0.");
        for (int facing = 0; facing < 4; facing++) {
            Doors x = Check.quarterOf("w1;rf;d0 0 " + facing + ";");
            CHECK.due("a gate facing " + facing, x.mark(2, 0), -facing);
            CHECK.due("a school facing " + facing, x.mark(4, 0), 7 - facing);
            x.opens(0, 0);
            CHECK.due("a shut school facing " + facing, x.mark(4, 0), -facing);
        }
        CHECK.due("NO", NO, -1000000);
    }

    /** Each body that is asked leaves its own sign in THE TRACE, so THE TRACE tells which KIND is over which. */
    private static void overOneAnother() throws IOException {
        CHECK.says("KINDS of DOORS are over one another: 0 DOOR; 1 PORCH, 2 GATE, 5 HATCH (each under DOOR); "
            + "3 BAY (under PORCH); 4 SCHOOL (under GATE).");
        int[] above = {-1, 0, 0, 1, 2, 0};
        long[] signs = {1, 10, 100, 1000, 10000, 100000};
        Doors x = Check.quarterOf(THREE);
        long was = x.trace();
        for (int kind = 0; kind < 6; kind++) {
            long come = 0;
            for (int k = kind; k >= 0; k = above[k]) {
                come += signs[k];
            }
            x.mark(kind, 0);
            CHECK.due("the bodies that kind " + kind + " asks", x.trace() - was, come);
            was = x.trace();
        }
    }

    private static void up() throws IOException {
        CHECK.says("MARK of a DOOR as if of a KIND (numbers in brackets come to THE TRACE as often as mark() asks that "
            + "body; \"up\" is what the KIND above does)");
        Doors x = Check.quarterOf("w3;rftf;rfff;d0 0 1;d2 0 3;d0 1 0;p7;");
        for (int n = 0; n < 8; n++) {
            for (int d = 0; d < 3; d++) {
                CHECK.due("a door's due", x.mark(0, d), x.door(d, 5));
                CHECK.due("what a porch adds", x.mark(1, d) - x.mark(0, d), Integer.bitCount(x.door(d, 7)));
                CHECK.due("what a gate takes", x.mark(0, d) - x.mark(2, d), x.door(d, 2));
                CHECK.due("a bay is twice a porch", x.mark(3, d), 2 * x.mark(1, d));
                CHECK.due("what a school adds", x.mark(4, d) - x.mark(2, d), 7 * x.door(d, 3));
                CHECK.due("what a hatch adds", x.mark(5, d) - x.mark(0, d), x.door(d, 8));
            }
            x.leaf(n & 1);
            x.bills();
            x.opens(n % 3, 0);
            x.hinges(2, n & 3);
            x.fog(n / 4);
        }
    }

    private static void marks(String why, Doors x, int d, int... want) {
        for (int kind = 0; kind < 6; kind++) {
            CHECK.due(why + ", kind " + kind, x.mark(kind, d), want[kind]);
        }
    }

    private static void kinds() throws IOException {
        CHECK.says("DOOR its DUE (1). PORCH up, and how many SEE it (10). GATE up less its FACING (100). "
            + "BAY up times 2 (1000). SCHOOL up, and 7 if it is open (10000). HATCH up, and what it has OWED (100000).");
        Doors x = Check.quarterOf(THREE);
        x.bills();
        x.bills();
        marks("it sees", x, 0, 9, 9, 8, 18, 15, 27);
        marks("it is seen", x, 1, 0, 1, 0, 2, 7, 0);
        marks("neither", x, 2, 0, 0, -3, 0, 4, 0);
        x.opens(0, 0);
        marks("shut", x, 0, 0, 0, -1, 0, -1, 18);
        marks("not seen any more", x, 1, 0, 0, 0, 0, 7, 0);
        Doors most = Check.quarterOf("w5;rfffff;rfffff;rfffff;rfffff;rfffff;"
            + "d2 2 1;d4 2 3;d0 2 1;d2 0 2;d2 4 0;p9;");
        marks("the most that can be", most, 0, 18, 22, 17, 44, 24, 18);
    }

    // ---- promise 28

    private static void trace() throws IOException {
        CHECK.says("numbers in brackets come to THE TRACE as often as mark() asks that body");
        int[] come = {1, 11, 101, 1011, 10101, 100001};
        for (int kind = 0; kind < 6; kind++) {
            Doors x = Check.quarterOf(THREE);
            CHECK.due("at first", x.trace(), 0);
            for (int n = 1; n <= 12; n++) {
                x.mark(kind, n % 3);
                CHECK.due("kind " + kind + ", " + n + " times", x.trace(), (long) come[kind] * n);
            }
            x.mark(kind, 3);
            x.mark(kind, -1);
            x.mark(6, 0);
            x.mark(-1, 0);
            CHECK.due("refused, nothing comes", x.trace(), come[kind] * 12L);
        }
        CHECK.says("`long trace()`: THE TRACE.");
        Doors x = Check.quarterOf(THREE);
        x.mark(5, 0);
        x.keep(0);
        x.mark(4, 0);
        x.bills();
        x.undo();
        x.back(0);
        CHECK.due("neither undone nor of an image", x.trace(), 110102);
        Check.picture(x);
        CHECK.due("nothing else asks a body", x.trace(), 110102);
        x.type('!');
        x.quarter();
        CHECK.due("a FAULT", x.trace(), 110102);
    }

    // ---- promises 25 and 26

    private static String state(Doors x) {
        StringBuilder all = new StringBuilder();
        for (int d = 0; d < x.count(2); d++) {
            for (int what : STATE_OF_DOOR) {
                all.append(x.door(d, what)).append(' ');
            }
        }
        all.append(x.now(4)).append(x.now(5)).append(x.now(6)).append(' ').append(x.cell(1, 0)).append(x.cell(1, 1));
        return all.append(' ').append(x.count(6)).toString();
    }

    private static void keep() throws IOException {
        CHECK.says("`int keep(int image)`: An IMAGE is kept: DUES of all. BAD.");
        Doors x = Check.quarterOf(THREE);
        CHECK.due("keep -1", x.keep(-1), BAD);
        CHECK.due("keep 2", x.keep(2), BAD);
        for (int far : FAR_OFF) {
            CHECK.due("keep " + far, x.keep(far), BAD);
        }
        CHECK.due("none was kept", x.back(0) + x.back(1), 2 * STATE);
        CHECK.due("keep 0", x.keep(0), 9);
        x.fog(1);
        CHECK.due("keep 1", x.keep(1), 0);
        CHECK.due("keep 1 again", x.keep(1), 0);
        CHECK.due("nothing changes by it", x.now(6) * 10 + x.count(6), 11);
        CHECK.due("of a new object", new Doors().keep(1), 0);
    }

    private static void back() throws IOException {
        CHECK.says("`int back(int image)`: "
            + "All of that becomes as an IMAGE has it: DUES of all. BAD; STATE: none was kept.");
        Doors none = new Doors();
        CHECK.due("of a new object", none.back(0) + none.back(1), 2 * STATE);
        CHECK.due("kept of a new object", none.keep(0) + none.leaf(0) + none.back(0), 0);
        CHECK.due("it was in leaf", none.now(5) * 10 + none.count(6), 10);
        Doors x = Check.quarterOf(THREE);
        CHECK.due("back -1", x.back(-1), BAD);
        CHECK.due("back 2", x.back(2), BAD);
        for (int far : FAR_OFF) {
            CHECK.due("back " + far, x.back(far), BAD);
        }
        x.keep(1);
        CHECK.due("the other one was not kept", x.back(0), STATE);
        x.fog(1);
        CHECK.due("back 1", x.back(1), 9);
        CHECK.due("back 1 once more", x.back(1), 9);
        CHECK.due("still not kept", x.back(0), STATE);
    }

    private static Doors changed() {
        Doors x = Check.quarterOf(THREE);
        x.bills();
        x.moves(1, 2);
        x.hinges(2, 1);
        x.opens(0, 0);
        x.cart(1, 0, 1);
        x.leaf(0);
        x.fog(1);
        return x;
    }

    private static void imagesKeep() throws IOException {
        CHECK.says("IMAGES 0, 1 keep NOW (where all DOORS are, FACING, open, CARTS, LEAF, FOG, OWED, what may be UNDONE)");
        for (int image = 0; image < 2; image++) {
            Doors x = changed();
            String was = state(x);
            x.keep(image);
            x.cart(1, 0, 0);
            x.moves(0, 1);
            x.hinges(1, 3);
            x.fog(0);
            x.leaf(1);
            x.opens(0, 1);
            x.bills();
            CHECK.due("something has changed", state(x).equals(was) ? 1 : 0, 0);
            x.back(image);
            CHECK.same("as kept in " + image, state(x), was);
            for (int left = 6; left >= 0; left--) {
                CHECK.due("undo", x.undo(), left);
            }
            CHECK.same("all undone", state(x), state(Check.quarterOf(THREE)));
            x.back(image);
            CHECK.same("the image is as it was", state(x), was);
        }
    }

    /** An image with ten things done: neither an eleventh nor an undo reaches into it. */
    private static void fullImage() throws IOException {
        CHECK.says("what may be UNDONE); nothing else.");
        Doors x = Check.quarterOf(THREE);
        for (int n = 0; n < 11; n++) {
            x.bills();
        }
        x.keep(0);
        for (int n = 0; n < 4; n++) {
            x.bills();
        }
        x.keep(1);
        for (int round = 0; round < 2; round++) {
            for (int image = 0; image < 2; image++) {
                x.back(image);
                x.fog(1);
                x.back(image);
                CHECK.due("image " + image + " in round " + round, x.now(7) * 100 + x.count(6), (11 + 4 * image) * 900 + 10);
                for (int left = 9; left >= 0; left--) {
                    CHECK.due("undo", x.undo(), left);
                    CHECK.due("owed", x.now(7), 9 * (1 + 4 * image + left));
                }
                CHECK.due("no more", x.undo(), STATE);
            }
        }
        x.tells(0, 9);
        x.type('w');
        x.keep(0);
        x.tells(0, 9);
        x.type('1');
        x.mark(0, 0);
        x.back(0);
        CHECK.due("told, text, trace", x.count(5) * 100 + x.count(7) * 10 + x.trace(), 221);
        x.forget();
        x.clear();
        x.back(0);
        CHECK.due("told, text, trace then", x.count(5) * 100 + x.count(7) * 10 + x.trace(), 1);
    }

    private static void keptAnew() throws IOException {
        CHECK.says("IMAGES 0, 1");
        Doors x = Check.quarterOf(THREE);
        x.bills();
        x.keep(0);
        x.undo();
        x.keep(1);
        x.fog(1);
        CHECK.due("kept anew", x.keep(0), 0);
        x.back(1);
        CHECK.due("image 1", x.now(7) * 100 + x.now(6) * 10 + x.count(6), 0);
        x.back(0);
        CHECK.due("image 0 has nothing of the old one", x.now(7) * 100 + x.now(6) * 10 + x.count(6), 11);
        // One image can be taken over into the other one.
        x.keep(1);
        x.undo();
        x.back(1);
        CHECK.due("image 1 is as image 0", x.now(6) * 10 + x.count(6), 11);
    }

    private static void readAnew() throws IOException {
        CHECK.says("(Read anew: as told, nothing TOLD or to be UNDONE, IMAGES are gone.)");
        for (String text : new String[] {"", "p1;", THREE}) {
            Doors x = changed();
            x.keep(0);
            x.keep(1);
            x.tells(0, 9);
            x.mark(0, 0);
            Check.tell(x, text);
            CHECK.due("told", x.count(5), 0);
            CHECK.due("to be undone", x.count(6) * 10 + x.undo(), STATE);
            CHECK.due("image 0", x.back(0), STATE);
            CHECK.due("image 1", x.back(1), STATE);
            CHECK.due("in leaf, no fog, no carts, nothing owed", x.now(5) - x.now(6) - x.now(4) - x.now(7), 1);
            CHECK.due("who is open", x.now(1), text.equals(THREE) ? 7 : 0);
            CHECK.due("kept anew", x.keep(0), text.equals(THREE) ? 9 : 0);
            CHECK.due("the other one is gone all the same", x.back(1), STATE);
        }
        Doors same = changed();
        Check.tell(same, THREE);
        CHECK.same("as told", state(same), state(Check.quarterOf(THREE)));
        Doors fault = changed();
        fault.keep(0);
        fault.tells(0, 9);
        String was = state(fault);
        Check.tell(fault, THREE + "!");
        CHECK.same("a FAULT is none of that", state(fault), was);
        CHECK.due("nor of what was told and kept", fault.count(5) * 10 + fault.back(0), 10);
    }

    public static void main(String[] args) throws IOException {
        markAsked();
        belowZero();
        kinds();
        overOneAnother();
        up();
        trace();
        keep();
        back();
        imagesKeep();
        fullImage();
        keptAnew();
        readAnew();
        CHECK.end();
    }
}
