import java.io.IOException;

/** CELLS, who SEES whom, DUE and WAY IN, sentence by sentence; promises 1, 5, 6, 15 and 27 at their edges. */
public final class QuarterEdgesTest {
    private static final Check CHECK = new Check();
    private static final int BAD = FacingDoors.BAD;
    private static final int[] FAR_OFF = {Integer.MIN_VALUE, -1000000, -10, 100, 1 << 16, Integer.MAX_VALUE};
    private static final int[] STEP_X = {0, 1, 0, -1}, STEP_Y = {-1, 0, 1, 0};
    private static final String SQUARE = "w7;" + "rfffffff;".repeat(7);

    private static String free(int wide, int rows) {
        return "w" + wide + ";" + ("r" + "f".repeat(wide) + ";").repeat(rows);
    }

    private static String door(int x, int y, int facing) {
        return "d" + x + " " + y + " " + facing + ";";
    }

    private static int back(int way) {
        return (way + 2) % 4;
    }

    // ---- promise 1 and what is at first

    private static void newObject() throws IOException {
        CHECK.says("`FacingDoors()`: As told; no CELLS.");
        Doors x = new Doors();
        int[] counts = {0, 0, 0, 1, 7, 0, 0, 0};
        for (int what = 0; what < 8; what++) {
            CHECK.due("count " + what, x.count(what), counts[what]);
        }
        CHECK.due("cell 0 0", x.cell(0, 0), BAD);
        CHECK.due("door 0", x.door(0, 0), BAD);
        CHECK.due("a cart", x.cart(0, 0, 1), BAD);
        CHECK.due("an image", x.back(0), FacingDoors.STATE);
        CHECK.due("undo", x.undo(), FacingDoors.STATE);
        CHECK.due("trace", x.trace(), 0);
    }

    private static void atFirst() throws IOException {
        CHECK.says("All DOORS are open at first, trees are in leaf, there is no fog, there are no CARTS, nothing is OWED.");
        int[] nows = {0, 0, 0, 0, 0, 1, 0, 0};
        Doors none = new Doors();
        for (int what = 0; what < 8; what++) {
            CHECK.due("new: now " + what, none.now(what), nows[what]);
        }
        Doors x = new Doors();
        StringBuilder told = new StringBuilder(free(7, 1));
        for (int n = 1; n <= 6; n++) {
            told.append(door(n - 1, 0, 0));
            // What was before must not shine through.
            x.opens(0, 0);
            x.leaf(0);
            x.fog(1);
            x.cart(6, 0, 1);
            CHECK.due("doors " + n, Check.tell(x, told.toString()), 2 + n);
            CHECK.due("who is open of " + n, x.now(1), (1 << n) - 1);
            CHECK.due("carts", x.now(4), 0);
            CHECK.due("in leaf, no fog", x.now(5) * 10 + x.now(6), 10);
            CHECK.due("owed", x.now(7), 0);
        }
    }

    // ---- CELLS

    private static void cells() throws IOException {
        CHECK.says("a CELL is told by x (0 .. WIDE less 1) and y (0 .. ROWS less 1)");
        int[][] sizes = {{1, 1}, {7, 1}, {1, 7}, {3, 5}, {7, 7}, {4, 0}};
        for (int[] size : sizes) {
            Doors x = Check.quarterOf(free(size[0], size[1]));
            for (int at = -2; at <= 8; at++) {
                for (int y = -2; y <= 8; y++) {
                    boolean is = at >= 0 && at < size[0] && y >= 0 && y < size[1];
                    CHECK.due("cell " + at + " " + y + " of " + size[0] + " " + size[1], x.cell(at, y), is ? 0 : BAD);
                }
            }
            for (int far : FAR_OFF) {
                CHECK.due("cell " + far + " 0", x.cell(far, 0), BAD);
                CHECK.due("cell 0 " + far, x.cell(0, far), BAD);
            }
        }
    }

    private static void grounds() throws IOException {
        CHECK.says("and y (0 .. ROWS less 1): free, a wall or a tree.");
        for (int turn = 0; turn < 3; turn++) {
            StringBuilder text = new StringBuilder("w7;");
            for (int y = 0; y < 7; y++) {
                text.append('r');
                for (int at = 0; at < 7; at++) {
                    text.append("fxt".charAt((at + 2 * y + turn) % 3));
                }
                text.append(';');
            }
            Doors x = Check.quarterOf(text.toString());
            for (int n = 0; n < 49; n++) {
                CHECK.due("cell " + n % 7 + " " + n / 7, x.cell(n % 7, n / 7), (n % 7 + 2 * (n / 7) + turn) % 3);
            }
        }
    }

    private static void whatACellIs() throws IOException {
        CHECK.says("`int cell(int x, int y)`: What a CELL is: "
            + "0 free, 1 a wall, 2 a tree, 3 a CART is there, 10 and the DOOR that is there. BAD.");
        Doors x = Check.quarterOf("w7;rfxtffff;rfffffff;" + door(4, 0, 0) + door(0, 1, 0) + door(1, 1, 0)
            + door(2, 1, 0) + door(3, 1, 0) + door(4, 1, 0));
        x.cart(3, 0, 1);
        int[][] want = {{0, 1, 2, 3, 10, 0, 0}, {11, 12, 13, 14, 15, 0, 0}};
        for (int y = 0; y < 2; y++) {
            for (int at = 0; at < 7; at++) {
                CHECK.due("cell " + at + " " + y, x.cell(at, y), want[y][at]);
            }
        }
        x.leaf(0);
        CHECK.due("a bare tree is a tree", x.cell(2, 0), 2);
        x.cart(3, 0, 0);
        x.moves(0, 3);
        CHECK.due("where the cart was", x.cell(3, 0), 10);
        CHECK.due("where the door was", x.cell(4, 0), 0);
    }

    // ---- who SEES whom

    /** Door 0 in the midst, door 1 on each other cell, each facing every way. */
    private static void direction() throws IOException {
        CHECK.says("A DOOR SEES another one, if it is open, there is no fog, "
            + "and that one stands in the direction that it is FACING");
        for (int n = 0; n < 49; n++) {
            int dx = n % 7 - 3, dy = n / 7 - 3;
            for (int way = 0; way < 4 && n != 24; way++) {
                Doors x = Check.quarterOf(SQUARE + door(3, 3, way) + door(n % 7, n / 7, n % 4));
                int far = Math.abs(dx) + Math.abs(dy);
                boolean ahead = dx == far * STEP_X[way] && dy == far * STEP_Y[way];
                CHECK.due("way " + way + ", the other on " + n % 7 + " " + n / 7, x.door(0, 4), ahead ? 2 : 0);
                boolean behind = -dx == far * STEP_X[n % 4] && -dy == far * STEP_Y[n % 4];
                CHECK.due("the other one facing " + n % 4, x.door(1, 4), behind ? 1 : 0);
            }
        }
    }

    private static void sight() throws IOException {
        CHECK.says("as many CELLS on as SIGHT tells at most (1: the next one)");
        for (int sight = 1; sight <= 7; sight++) {
            for (int far = 1; far <= 6; far++) {
                for (int way = 0; way < 4; way++) {
                    int x0 = way == 3 ? 6 : 0, y0 = way == 0 ? 6 : 0;
                    String text = (way % 2 == 0 ? free(1, 7) : free(7, 1)) + "s" + sight + ";"
                        + door(way == 3 ? 6 : 0, way == 0 ? 6 : 0, way)
                        + door(x0 + far * STEP_X[way], y0 + far * STEP_Y[way], way);
                    CHECK.due("in " + text, Check.quarterOf(text).door(0, 4), far <= sight ? 2 : 0);
                }
            }
        }
    }

    private static void between() throws IOException {
        CHECK.says("with no wall, CART or other DOOR on the CELLS between");
        for (int at = 1; at <= 3; at++) {
            StringBuilder row = new StringBuilder("fffff");
            row.setCharAt(at, 'x');
            CHECK.due("a wall on " + at, Check.quarterOf("w5;r" + row + ";d0 0 1;d4 0 3;").now(0), 0);
            Doors cart = Check.quarterOf("w5;rfffff;d0 0 1;d4 0 3;");
            cart.cart(at, 0, 1);
            CHECK.due("a cart on " + at, cart.now(0), 0);
            Doors door = Check.quarterOf("w5;rfffff;d0 0 1;d4 0 3;d" + at + " 0 0;");
            CHECK.due("a door on " + at + ", seen by 0", door.door(0, 4), 4);
            CHECK.due("a door on " + at + ", seen by 1", door.door(1, 4), 4);
        }
        Doors behind = Check.quarterOf("w5;rxfffx;rfffff;d1 0 1;d3 0 3;d2 1 1;");
        behind.cart(1, 1, 1);
        CHECK.due("what stands behind and beside", behind.now(0), 4);
        CHECK.due("side by side there is none between", Check.quarterOf("w2;rff;d0 0 1;d1 0 3;").now(0), 4);
        CHECK.due("none that sees itself", Check.quarterOf("w3;rfff;d1 0 1;").door(0, 4), 0);
        CHECK.due("not round the border", Check.quarterOf("w2;rff;rff;d1 0 1;d0 1 3;d0 0 0;d1 1 2;").now(0), 0);
    }

    private static void trees() throws IOException {
        CHECK.says("and no tree, if they are in leaf");
        for (int at = 1; at <= 3; at++) {
            StringBuilder row = new StringBuilder("fffff");
            row.setCharAt(at, 't');
            Doors x = Check.quarterOf("w5;r" + row + ";d0 0 1;d4 0 3;");
            CHECK.due("a tree in leaf on " + at, x.now(0), 0);
            CHECK.due("a bare one", x.leaf(0), 4);
            CHECK.due("in leaf again", x.leaf(1), 0);
        }
        Doors all = Check.quarterOf("w5;rftttf;d0 0 1;d4 0 3;");
        CHECK.due("bare trees all the way", all.leaf(0), 4);
    }

    private static void openOrFog() throws IOException {
        CHECK.says("if it is open, there is no fog");
        Doors x = Check.quarterOf("w3;rfff;d0 0 1;d2 0 0;");
        CHECK.due("open", x.door(0, 4), 2);
        x.opens(0, 0);
        CHECK.due("shut", x.door(0, 4) + x.door(0, 5) + x.door(1, 7), 0);
        x.opens(0, 1);
        x.fog(1);
        CHECK.due("fog", x.door(0, 4) + x.door(0, 5) + x.door(1, 7), 0);
        CHECK.says("(Whether the other one is open does not matter.)");
        Doors other = Check.quarterOf("w3;rfff;d0 0 1;d2 0 3;");
        other.opens(1, 0);
        CHECK.due("the other one is shut", other.door(0, 4) * 10 + other.door(1, 7), 21);
        CHECK.due("it stares all the same", other.door(0, 5), 2);
    }

    private static void stares() throws IOException {
        CHECK.says("It STARES, if the other one is FACING it likewise (the way back)");
        for (int way = 0; way < 4; way++) {
            for (int facing = 0; facing < 4; facing++) {
                String text = free(5, 5) + door(2, 2, way) + door(2 + 2 * STEP_X[way], 2 + 2 * STEP_Y[way], facing);
                Doors x = Check.quarterOf(text);
                CHECK.due("in " + text, x.door(0, 5), facing == back(way) ? 2 : 1);
                CHECK.due("the other one", x.door(1, 5), facing == back(way) ? 2 : 0);
            }
        }
        // Two look at one another's line, but a third one stands between: nobody looks back at door 0.
        Doors three = Check.quarterOf("w5;rfffff;d0 0 1;d4 0 3;d2 0 1;");
        CHECK.due("one between", three.door(0, 5) * 100 + three.door(1, 5) * 10 + three.door(2, 5), 122);
    }

    private static void due() throws IOException {
        CHECK.says("DUE of a DOOR: PRICE for each that it SEES, twice that if it STARES.");
        for (int price = 1; price <= 9; price++) {
            Doors x = Check.quarterOf("w4;rffff;d0 0 1;d1 0 3;d3 0 3;p" + price + ";");
            CHECK.due("stares", x.door(0, 5), 2 * price);
            CHECK.due("sees", x.door(2, 5), price);
            x.hinges(2, 0);
            CHECK.due("sees none", x.door(2, 5), 0);
            CHECK.due("all", x.now(0), 4 * price);
        }
    }

    // ---- WAY IN

    private static void wayIn() throws IOException {
        CHECK.says("WAY IN: "
            + "the CELL that it is FACING is one of THE QUARTER, free (a tree is not), with no CART, no DOOR.");
        for (int way = 0; way < 4; way++) {
            CHECK.due("out " + way, Check.quarterOf(free(1, 1) + door(0, 0, way)).door(0, 6), 0);
            for (String ground : new String[] {"f", "x", "t"}) {
                String[] cells = {"f", "f", "f", "f"};
                cells[way] = ground;
                String text = "w3;rf" + cells[0] + "f;r" + cells[3] + "f" + cells[1] + ";rf" + cells[2] + "f;";
                Doors x = Check.quarterOf(text + door(1, 1, way));
                CHECK.due(ground + " ahead, way " + way, x.door(0, 6), ground.equals("f") ? 1 : 0);
                x.leaf(0);
                CHECK.due(ground + " ahead, bare, way " + way, x.door(0, 6), ground.equals("f") ? 1 : 0);
            }
            String text = free(3, 3) + door(1, 1, way);
            Doors cart = Check.quarterOf(text);
            cart.cart(1 + STEP_X[way], 1 + STEP_Y[way], 1);
            CHECK.due("a cart ahead, way " + way, cart.door(0, 6), 0);
            cart.cart(1 + STEP_X[way], 1 + STEP_Y[way], 0);
            cart.cart(1 - STEP_X[way], 1 - STEP_Y[way], 1);
            CHECK.due("a cart behind, way " + way, cart.door(0, 6), 1);
            Doors door = Check.quarterOf(text + door(1 + STEP_X[way], 1 + STEP_Y[way], 0));
            CHECK.due("a door ahead, way " + way, door.door(0, 6), 0);
        }
        Doors shut = Check.quarterOf("w2;rff;d0 0 1;s1;");
        shut.opens(0, 0);
        shut.fog(1);
        CHECK.due("shut, in fog", shut.door(0, 6) * 10 + shut.now(2), 11);
    }

    // ---- promises 6, 15 and 27

    private static void doorAsked() throws IOException {
        CHECK.says("`int door(int d, int what)`: Of a DOOR: 0 x, 1 y, 2 FACING, 3 whether open, 4 whom it SEES (bits), "
            + "5 DUE, 6 whether there is a WAY IN, 7 SEEN (bits), 8 OWED. BAD.");
        Doors x = Check.quarterOf(SQUARE + door(0, 0, 1) + door(6, 0, 3) + door(3, 3, 0) + door(0, 6, 0)
            + door(6, 6, 0) + door(3, 6, 0) + "p9;");
        // 0 and 1 stare, 3 sees 0, 4 sees 1, 5 sees 2, 2 sees none.
        x.bills();
        int[][] want = {{0, 0, 1, 1, 2, 18, 1, 10, 18}, {6, 0, 3, 1, 1, 18, 1, 17, 18}, {3, 3, 0, 1, 0, 0, 1, 32, 0},
            {0, 6, 0, 1, 1, 9, 1, 0, 9}, {6, 6, 0, 1, 2, 9, 1, 0, 9}, {3, 6, 0, 1, 4, 9, 1, 0, 9}};
        for (int d = 0; d < 6; d++) {
            for (int what = 0; what < 9; what++) {
                CHECK.due("door " + d + " " + what, x.door(d, what), want[d][what]);
            }
            CHECK.due("door " + d + " -1", x.door(d, -1), BAD);
            CHECK.due("door " + d + " 9", x.door(d, 9), BAD);
        }
        CHECK.due("door -1", x.door(-1, 0), BAD);
        CHECK.due("door 6", x.door(6, 0), BAD);
        for (int far : FAR_OFF) {
            CHECK.due("door " + far, x.door(far, 0), BAD);
            CHECK.due("door 0 " + far, x.door(0, far), BAD);
        }
        Doors few = Check.quarterOf(free(7, 1) + door(0, 0, 1));
        CHECK.due("the first that there is not", few.door(1, 0), BAD);
    }

    private static void seen() throws IOException {
        CHECK.says("SEEN of a DOOR: who SEES it (bits)");
        Doors x = Check.quarterOf(SQUARE + door(3, 3, 1) + door(3, 0, 2) + door(6, 3, 3) + door(3, 6, 0)
            + door(0, 3, 1) + door(0, 0, 1));
        CHECK.due("from all sides", x.door(0, 7), 30);
        CHECK.due("by the last one", x.door(1, 7), 32);
        CHECK.due("by the first one", x.door(2, 7), 1);
        CHECK.due("by none", x.door(5, 7), 0);
        x.opens(4, 0);
        CHECK.due("a shut one does not see", x.door(0, 7), 14);
    }

    private static void nowAsked() throws IOException {
        CHECK.says("`int now(int what)`: 0 DUES of all, 1 who is open (bits), 2 who has a WAY IN (bits), 3 PAIRS, "
            + "4 CARTS, 5 whether in leaf, 6 whether there is fog, 7 OWED by all. BAD.");
        Doors x = Check.quarterOf(free(4, 4) + door(0, 0, 1) + door(3, 0, 3) + door(0, 1, 1) + door(3, 1, 3)
            + door(0, 3, 1) + door(3, 3, 3) + "p9;");
        CHECK.due("dues of three twos that stare", x.now(0), 108);
        CHECK.due("all six are open", x.now(1), 63);
        CHECK.due("all six have a way in", x.now(2), 63);
        CHECK.due("pairs", x.now(3), 3);
        x.bills();
        x.bills();
        CHECK.due("owed by all", x.now(7), 216);
        for (int d = 0; d < 6; d++) {
            x.opens(d, 0);
        }
        CHECK.due("none is open", x.now(0) + x.now(1) + x.now(3), 0);
        CHECK.due("they have a way in", x.now(2), 63);
        CHECK.due("now -1", x.now(-1), BAD);
        CHECK.due("now 8", x.now(8), BAD);
        for (int far : FAR_OFF) {
            CHECK.due("now " + far, x.now(far), BAD);
        }
        Doors carts = Check.quarterOf(SQUARE);
        for (int n = 0; n < 49; n++) {
            CHECK.due("cart " + n, carts.cart(n % 7, n / 7, 1), n + 1);
        }
        CHECK.due("carts on all cells", carts.now(4), 49);
        for (int n = 0; n < 49; n++) {
            CHECK.due("the cell of cart " + n, carts.cell(n % 7, n / 7), 3);
        }
    }

    private static void countAsked() throws IOException {
        CHECK.says("`int count(int what)`: 0 WIDE, 1 ROWS, 2 DOORS, 3 PRICE, 4 SIGHT, "
            + "5 TOLD, 6 how many may be UNDONE, 7 bytes of THE TEXT. BAD.");
        Doors x = Check.quarterOf("w7;rfffffff;d0 0 1;p9;s1;");
        for (int n = 0; n < 12; n++) {
            CHECK.due("told", x.count(5), Math.min(6, n));
            CHECK.due("to be undone", x.count(6), Math.min(10, n));
            CHECK.due("bytes", x.count(7), n);
            x.tells(0, 0);
            x.bills();
            x.type('w');
        }
        int[] counts = {7, 1, 1, 9, 1, 6, 10, 12};
        for (int what = 0; what < 8; what++) {
            CHECK.due("count " + what, x.count(what), counts[what]);
        }
        CHECK.due("count -1", x.count(-1), BAD);
        CHECK.due("count 8", x.count(8), BAD);
        for (int far : FAR_OFF) {
            CHECK.due("count " + far, x.count(far), BAD);
        }
    }

    public static void main(String[] args) throws IOException {
        newObject();
        atFirst();
        cells();
        grounds();
        whatACellIs();
        direction();
        sight();
        between();
        trees();
        openOrFog();
        stares();
        due();
        wayIn();
        doorAsked();
        seen();
        nowAsked();
        countAsked();
        CHECK.end();
    }
}
