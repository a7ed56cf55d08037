import java.io.IOException;
import java.util.function.ToLongFunction;

/** What is done and UNDONE, sentence by sentence; promises 7 to 14 at their edges. */
public final class DoneEdgesTest {
    private static final Check CHECK = new Check();
    private static final int BAD = FacingDoors.BAD, STATE = FacingDoors.STATE;
    private static final int[] FAR_OFF = {Integer.MIN_VALUE, -100, 49, 256, Integer.MAX_VALUE};
    private static final int[] STEP_X = {0, 1, 0, -1}, STEP_Y = {-1, 0, 1, 0};
    /** One door in the midst of free cells. */
    private static final String MIDST = "w3;rfff;rfff;rfff;d1 1 0;";

    // ---- promise 7

    private static void hinges() throws IOException {
        CHECK.says("`int hinges(int d, int facing)`: TURNED: what it was FACING. BAD; STATE: it is so.");
        for (int was = 0; was < 4; was++) {
            for (int to = 0; to < 4; to++) {
                Doors x = Check.quarterOf("w1;rf;d0 0 " + was + ";");
                CHECK.due("from " + was + " to " + to, x.hinges(0, to), was == to ? STATE : was);
                CHECK.due("facing", x.door(0, 2), to);
                CHECK.due("to be undone", x.count(6), was == to ? 0 : 1);
            }
        }
        Doors x = Check.quarterOf(MIDST);
        CHECK.due("to -1", x.hinges(0, -1), BAD);
        CHECK.due("to 4", x.hinges(0, 4), BAD);
        CHECK.due("of -1", x.hinges(-1, 1), BAD);
        CHECK.due("of 1", x.hinges(1, 1), BAD);
        for (int far : FAR_OFF) {
            CHECK.due("of " + far, x.hinges(far, 1), BAD);
            CHECK.due("to " + far, x.hinges(0, far), BAD);
        }
        CHECK.due("nothing is done", x.count(6) * 10 + x.door(0, 2), 0);
        CHECK.due("of six the last", Check.quarterOf(six()).hinges(5, 0), 1);
        CHECK.due("of six a seventh", Check.quarterOf(six()).hinges(6, 0), BAD);
    }

    private static String six() {
        return "w7;rfffffff;d0 0 1;d1 0 1;d2 0 1;d3 0 1;d4 0 1;d5 0 1;";
    }

    // ---- promise 8

    private static void moves() throws IOException {
        CHECK.says("`int moves(int d, int way)`: MOVED: how many may be UNDONE then. BAD; STATE: it can not be.");
        Doors x = Check.quarterOf("w7;rfffffff;d0 0 0;");
        for (int n = 1; n <= 6; n++) {
            CHECK.due("to the right", x.moves(0, 1), n);
        }
        CHECK.due("beyond the last cell", x.moves(0, 1), STATE);
        for (int n = 7; n <= 12; n++) {
            CHECK.due("to the left", x.moves(0, 3), Math.min(10, n));
        }
        CHECK.due("beyond the first cell", x.moves(0, 3), STATE);
        CHECK.due("up, out", x.moves(0, 0), STATE);
        CHECK.due("down, out", x.moves(0, 2), STATE);
        CHECK.due("way -1", x.moves(0, -1), BAD);
        CHECK.due("way 4", x.moves(0, 4), BAD);
        CHECK.due("door -1", x.moves(-1, 1), BAD);
        CHECK.due("door 1", x.moves(1, 1), BAD);
        for (int far : FAR_OFF) {
            CHECK.due("door " + far, x.moves(far, 1), BAD);
            CHECK.due("way " + far, x.moves(0, far), BAD);
        }
        CHECK.due("it stays there", x.cell(0, 0) * 100 + x.count(6), 1010);
    }

    private static void movesInto() throws IOException {
        CHECK.says("MOVED: a DOOR is on the next CELL in a direction (free, no CART, no DOOR there)");
        for (int way = 0; way < 4; way++) {
            int toX = 1 + STEP_X[way], toY = 1 + STEP_Y[way];
            Doors free = Check.quarterOf(MIDST);
            CHECK.due("free, way " + way, free.moves(0, way), 1);
            CHECK.due("it is there", free.door(0, 0) * 10 + free.door(0, 1), toX * 10 + toY);
            CHECK.due("its facing stays", free.door(0, 2), 0);
            CHECK.due("the cell behind it", free.cell(1, 1), 0);
            for (String ground : new String[] {"x", "t"}) {
                Doors other = Check.quarterOf("w3;rfGf;rGfG;rfGf;d1 1 0;".replace("G", ground));
                CHECK.due(ground + ", way " + way, other.moves(0, way), STATE);
                other.leaf(0);
                CHECK.due(ground + ", bare, way " + way, other.moves(0, way), STATE);
            }
            Doors cart = Check.quarterOf(MIDST);
            cart.cart(toX, toY, 1);
            CHECK.due("a cart, way " + way, cart.moves(0, way), STATE);
            cart.cart(toX, toY, 0);
            CHECK.due("it has left, way " + way, cart.moves(0, way), 3);
            Doors door = Check.quarterOf(MIDST + "d" + toX + " " + toY + " 0;");
            door.opens(1, 0);
            CHECK.due("a door, way " + way, door.moves(0, way), STATE);
        }
        Doors shut = Check.quarterOf(MIDST);
        shut.opens(0, 0);
        shut.fog(1);
        CHECK.due("a shut one in fog is moved, too", shut.moves(0, 0), 3);
    }

    // ---- promise 9

    private static void opens() throws IOException {
        CHECK.says("`int opens(int d, int is)`: OPENED (1), shut (0): its DUE then. BAD; STATE: it is so.");
        Doors x = Check.quarterOf("w3;rfff;d0 0 1;d2 0 3;p9;");
        CHECK.due("open already", x.opens(0, 1), STATE);
        CHECK.due("shut", x.opens(0, 0), 0);
        CHECK.due("shut already", x.opens(0, 0), STATE);
        CHECK.due("opened", x.opens(0, 1), 18);
        CHECK.due("to be undone", x.count(6), 2);
        x.opens(0, 0);
        x.fog(1);
        CHECK.due("opened in fog", x.opens(0, 1), 0);
        CHECK.due("is -1", x.opens(0, -1), BAD);
        CHECK.due("is 2", x.opens(0, 2), BAD);
        CHECK.due("door -1", x.opens(-1, 0), BAD);
        CHECK.due("door 2", x.opens(2, 0), BAD);
        for (int far : FAR_OFF) {
            CHECK.due("door " + far, x.opens(far, 0), BAD);
            CHECK.due("is " + far, x.opens(0, far), BAD);
        }
        Doors six = Check.quarterOf(six());
        for (int d = 0; d < 6; d++) {
            six.opens(d, 0);
            CHECK.due("who is open", six.now(1), 63 & -1 << d + 1);
        }
    }

    // ---- promise 10

    private static void carts() throws IOException {
        CHECK.says("`int cart(int x, int y, int is)`: "
            + "CART is parked (1), leaves (0): how many there are. BAD; STATE: it can not be.");
        Doors x = Check.quarterOf("w3;rfff;rfff;");
        CHECK.due("none to leave", x.cart(0, 0, 0), STATE);
        for (int n = 0; n < 6; n++) {
            CHECK.due("parked", x.cart(n % 3, n / 3, 1), n + 1);
            CHECK.due("parked there again", x.cart(n % 3, n / 3, 1), STATE);
        }
        for (int n = 0; n < 6; n++) {
            CHECK.due("leaves", x.cart(n % 3, n / 3, 0), 5 - n);
            CHECK.due("leaves again", x.cart(n % 3, n / 3, 0), STATE);
        }
        CHECK.due("is -1", x.cart(0, 0, -1), BAD);
        CHECK.due("is 2", x.cart(0, 0, 2), BAD);
        int[][] outside = {{-1, 0}, {3, 0}, {0, -1}, {0, 2}, {3, 2}, {-1, -1}};
        for (int[] cell : outside) {
            CHECK.due("on " + cell[0] + " " + cell[1], x.cart(cell[0], cell[1], 1), BAD);
            CHECK.due("from " + cell[0] + " " + cell[1], x.cart(cell[0], cell[1], 0), BAD);
        }
        for (int far : FAR_OFF) {
            CHECK.due("x " + far, x.cart(far, 0, 1), BAD);
            CHECK.due("y " + far, x.cart(0, far, 1), BAD);
            CHECK.due("is " + far, x.cart(0, 0, far), BAD);
        }
        CHECK.due("none is there", x.now(4), 0);
    }

    private static void cartsOn() throws IOException {
        CHECK.says("CART: one is parked on a free CELL with no DOOR and no CART, or leaves it.");
        Doors x = Check.quarterOf("w4;rfxtf;d0 0 1;");
        for (int at = 0; at < 3; at++) {
            CHECK.due("parked on " + at, x.cart(at, 0, 1), STATE);
            CHECK.due("leaves " + at, x.cart(at, 0, 0), STATE);
        }
        x.leaf(0);
        CHECK.due("parked on a bare tree", x.cart(2, 0, 1), STATE);
        CHECK.due("parked on a free one", x.cart(3, 0, 1), 1);
        CHECK.due("no other one there", x.cart(3, 0, 1), STATE);
        Doors moved = Check.quarterOf("w2;rff;d0 0 1;");
        moved.moves(0, 1);
        CHECK.due("where the door was", moved.cart(0, 0, 1), 1);
        CHECK.due("where the door is", moved.cart(1, 0, 1), STATE);
    }

    // ---- promises 11 and 12

    private static void leaf() throws IOException {
        CHECK.says("`int leaf(int is)`: LEAF (1), bare (0): DUES of all then. BAD; STATE: it is so.");
        Doors x = Check.quarterOf("w3;rftf;d0 0 1;d2 0 3;p9;");
        CHECK.due("in leaf already", x.leaf(1), STATE);
        CHECK.due("bare", x.leaf(0), 36);
        CHECK.due("bare already", x.leaf(0), STATE);
        CHECK.due("in leaf", x.leaf(1), 0);
        CHECK.due("to be undone", x.count(6), 2);
        x.fog(1);
        CHECK.due("bare in fog", x.leaf(0), 0);
        CHECK.due("-1", x.leaf(-1), BAD);
        CHECK.due("2", x.leaf(2), BAD);
        for (int far : FAR_OFF) {
            CHECK.due("leaf " + far, x.leaf(far), BAD);
        }
        CHECK.due("it stays bare", x.now(5), 0);
        CHECK.due("without trees or cells", new Doors().leaf(0), 0);
    }

    private static void fog() throws IOException {
        CHECK.says("`int fog(int is)`: FOG (1), none (0): DUES of all then. BAD; STATE: it is so.");
        Doors x = Check.quarterOf("w3;rfff;d0 0 1;d2 0 3;p9;");
        CHECK.due("none already", x.fog(0), STATE);
        CHECK.due("fog", x.fog(1), 0);
        CHECK.due("fog already", x.fog(1), STATE);
        CHECK.due("none", x.fog(0), 36);
        CHECK.due("to be undone", x.count(6), 2);
        CHECK.due("-1", x.fog(-1), BAD);
        CHECK.due("2", x.fog(2), BAD);
        for (int far : FAR_OFF) {
            CHECK.due("fog " + far, x.fog(far), BAD);
        }
        CHECK.due("there is none", x.now(6), 0);
        CHECK.due("without cells", new Doors().fog(1), 0);
    }

    // ---- promise 13

    private static void bills() throws IOException {
        CHECK.says("`int bills()`: BILLED: DUES of all.");
        Doors none = new Doors();
        CHECK.due("without doors", none.bills() * 10 + none.count(6), 1);
        Doors x = Check.quarterOf("w3;rfff;d0 0 1;d2 0 3;p9;");
        for (int n = 1; n <= 20; n++) {
            CHECK.due("bills", x.bills(), 36);
            CHECK.due("owed by 0", x.door(0, 8), 18 * n);
            CHECK.due("owed by all", x.now(7), 36 * n);
        }
        x.opens(1, 0);
        CHECK.due("one is shut", x.bills() * 1000 + x.door(1, 8), 18360);
        x.fog(1);
        CHECK.due("nothing is due", x.bills(), 0);
        CHECK.due("what was owed stays", x.now(7), 738);
        CHECK.due("that was done, too", x.undo() * 10 + x.now(6), 91);
    }

    /** Nothing can be owed so far in 512 calls (18 a bill): this alone goes on beyond them. */
    private static void mostOwed() throws IOException {
        CHECK.says("BILLED: each DOOR's DUE is added to what it has OWED (9999 at most)");
        FacingDoors x = new FacingDoors();
        String text = "w4;rffff;d0 0 1;d1 0 3;d3 0 3;p9;";
        for (int i = 0; i < text.length(); i++) {
            x.type(text.charAt(i));
        }
        x.quarter();
        for (int n = 1; n <= 555; n++) {
            x.bills();
        }
        CHECK.due("not yet", x.door(0, 8), 9990);
        CHECK.due("the bill tells what is due", x.bills(), 45);
        CHECK.due("the most", x.door(0, 8), 9999);
        CHECK.due("each for itself", x.door(2, 8), 556 * 9);
        x.bills();
        CHECK.due("no more", x.door(0, 8), 9999);
        CHECK.due("owed by all", x.now(7), 2 * 9999 + 557 * 9);
        x.undo();
        x.undo();
        CHECK.due("undone", x.door(0, 8), 9990);
    }

    // ---- what is another one then, and what stays as it was

    /** All that can be done has its name here, in the order in which it can be asked. */
    private static final String[] NAMES = {"x0", "y0", "facing0", "open0", "owed0", "x1", "y1", "facing1", "open1",
        "owed1", "carts", "leaf", "fog", "cell 0 1", "cell 1 1"};

    private static int[] values(Doors x) {
        int[] all = new int[NAMES.length];
        int[] ofDoor = {0, 1, 2, 3, 8};
        for (int n = 0; n < 10; n++) {
            all[n] = x.door(n / 5, ofDoor[n % 5]);
        }
        for (int n = 0; n < 3; n++) {
            all[10 + n] = x.now(4 + n);
        }
        all[13] = x.cell(0, 1);
        all[14] = x.cell(1, 1);
        return all;
    }

    /** Two doors that stare at one another, and a cart on 0 1: the call changes those of the names alone. */
    private static void changes(String what, ToLongFunction<Doors> call, String changed) {
        Doors x = Check.quarterOf("w3;rfff;rfff;d0 0 1;d2 0 3;p4;");
        x.cart(0, 1, 1);
        int[] was = values(x);
        CHECK.due(what + " is done", call.applyAsLong(x) < 0 ? 1 : 0, 0);
        int[] is = values(x);
        StringBuilder other = new StringBuilder();
        for (int n = 0; n < is.length; n++) {
            other.append(is[n] == was[n] ? "" : NAMES[n] + " " + was[n] + " to " + is[n] + "; ");
        }
        CHECK.same(what + " changes", other.toString(), changed);
    }

    private static void whatChanges() throws IOException {
        CHECK.says("TURNED: a DOOR is FACING another way.");
        changes("hinges of 0", x -> x.hinges(0, 0), "facing0 1 to 0; ");
        changes("hinges of 1", x -> x.hinges(1, 2), "facing1 3 to 2; ");
        CHECK.says("MOVED: a DOOR is on the next CELL in a direction (free, no CART, no DOOR there).");
        changes("a move of 0", x -> x.moves(0, 1), "x0 0 to 1; ");
        changes("a move of 1", x -> x.moves(1, 2), "y1 0 to 1; ");
        CHECK.says("OPENED, shut.");
        changes("shutting 0", x -> x.opens(0, 0), "open0 1 to 0; ");
        changes("shutting 1", x -> x.opens(1, 0), "open1 1 to 0; ");
        changes("shutting and opening", x -> x.opens(1, 0) + x.opens(1, 1), "");
        CHECK.says("CART: one is parked on a free CELL with no DOOR and no CART, or leaves it.");
        changes("a cart that comes", x -> x.cart(1, 1, 1), "carts 1 to 2; cell 1 1 0 to 3; ");
        changes("a cart that leaves", x -> x.cart(0, 1, 0), "carts 1 to 0; cell 0 1 3 to 0; ");
        CHECK.says("LEAF: trees are in leaf, or bare.");
        changes("leaves that fall", x -> x.leaf(0), "leaf 1 to 0; ");
        changes("leaves that come again", x -> x.leaf(0) + x.leaf(1), "");
        CHECK.says("FOG: there is, or is none.");
        changes("fog", x -> x.fog(1), "fog 0 to 1; ");
        changes("fog that lifts", x -> x.fog(1) + x.fog(0), "");
        CHECK.says("BILLED: each DOOR's DUE is added to what it has OWED");
        changes("bills", x -> x.bills(), "owed0 0 to 8; owed1 0 to 8; ");
        changes("bills of one that looks away", x -> x.hinges(1, 2) + x.bills(), "owed0 0 to 4; facing1 3 to 2; ");
    }

    // ---- promise 14

    private static void undoNone() throws IOException {
        CHECK.says("`int undo()`: UNDONE: how many more may be. STATE: none.");
        Doors x = Check.quarterOf(MIDST);
        CHECK.due("none", x.undo(), STATE);
        for (int n = 1; n <= 13; n++) {
            x.bills();
        }
        for (int left = 9; left >= 0; left--) {
            CHECK.due("undo", x.undo(), left);
        }
        CHECK.due("none any more", x.undo(), STATE);
        CHECK.due("nor then", x.undo(), STATE);
        CHECK.due("none of a new object", new Doors().undo(), STATE);
    }

    private static void tenAreKnown() throws IOException {
        CHECK.says("UNDONE: the latest of these (10 are known, older ones are lost): all is as ahead of it.");
        for (int done = 0; done <= 13; done++) {
            Doors x = Check.quarterOf("w2;rff;d0 0 1;d1 0 0;");
            for (int n = 0; n < done; n++) {
                x.bills();
            }
            int known = Math.min(10, done);
            CHECK.due("known of " + done, x.count(6), known);
            for (int left = known - 1; left >= 0; left--) {
                CHECK.due("undo", x.undo() * 100 + x.now(7), left * 100 + done - known + left);
            }
            CHECK.due("no more of " + done, x.undo() * 100 + x.now(7), STATE * 100 + done - known);
        }
        Doors x = Check.quarterOf("w2;rff;d0 0 1;d1 0 0;");
        for (int n = 0; n < 10; n++) {
            x.bills();
        }
        x.undo();
        x.undo();
        x.undo();
        for (int n = 0; n < 5; n++) {
            x.fog(1 - n % 2);
        }
        CHECK.due("seven and five are ten", x.count(6), 10);
        for (int left = 9; left >= 0; left--) {
            x.undo();
        }
        CHECK.due("the first two are lost", x.now(7) * 10 + x.now(6), 20);
        CHECK.due("no more", x.undo(), STATE);
    }

    private static void undone(String what, ToLongFunction<Doors> done) {
        // The tree, the carts and what is owed are there so that each thing can be done, and undone.
        Doors x = ready();
        CHECK.due(what + " is refused", done.applyAsLong(x) < 0 ? 1 : 0, 0);
        CHECK.due(what + " may be undone", x.count(6), 7);
        CHECK.due(what + " changed nothing", Check.scene(x).equals(Check.scene(ready())) ? 1 : 0, 0);
        CHECK.due("undo of " + what, x.undo(), 6);
        CHECK.same(what + " undone", Check.picture(x), Check.picture(ready()));
    }

    private static Doors ready() {
        Doors x = Check.quarterOf("w4;rfftf;rffff;d0 0 1;d3 0 3;p2;");
        x.cart(3, 1, 1);
        x.cart(1, 1, 1);
        x.leaf(0);
        x.opens(0, 0);
        x.fog(1);
        x.fog(0);
        return x;
    }

    private static void eachIsUndone() throws IOException {
        CHECK.says("leaves that fall, fog, bills, all of it undone");
        undone("hinges", x -> x.hinges(1, 1));
        undone("moves", x -> x.moves(0, 1));
        undone("shut", x -> x.opens(1, 0));
        undone("opened", x -> x.opens(0, 1));
        undone("a cart comes", x -> x.cart(0, 1, 1));
        undone("a cart leaves", x -> x.cart(3, 1, 0));
        undone("leaf", x -> x.leaf(1));
        undone("fog", x -> x.fog(1));
        undone("bills", x -> x.bills());
    }

    private static void notDone(String what, ToLongFunction<Doors> call) {
        Doors x = ready();
        call.applyAsLong(x);
        CHECK.due("to be undone behind " + what, x.count(6), 6);
        CHECK.due("undone behind " + what, x.undo() * 10 + x.now(6), 51);
    }

    private static void nothingElseIsUndone() throws IOException {
        CHECK.says("UNDONE: the latest of these");
        notDone("hinges refused", x -> x.hinges(1, 3));
        notDone("moves refused", x -> x.moves(0, 0));
        notDone("opens refused", x -> x.opens(1, 1));
        notDone("cart refused", x -> x.cart(0, 0, 1));
        notDone("leaf refused", x -> x.leaf(0));
        notDone("fog refused", x -> x.fog(0));
        notDone("tells", x -> x.tells(0, 1));
        notDone("forget", x -> x.forget());
        notDone("keep", x -> x.keep(0));
        notDone("back refused", x -> x.back(0));
        notDone("back", x -> x.keep(0) + x.back(0));
        notDone("mark", x -> x.mark(5, 0));
        notDone("type", x -> x.type('w'));
        notDone("clear", x -> x.type('w') + x.clear());
        notDone("a FAULT", x -> x.type('w') + x.quarter());
        notDone("all that asks", x -> Check.picture(x).length());
        Doors x = ready();
        x.tells(1, 2);
        x.mark(0, 1);
        x.type('p');
        x.keep(1);
        x.undo();
        CHECK.due("told, text and trace stay", x.count(5) * 100 + x.count(7) * 10 + x.trace(), 111);
        // The open one stares at the shut one: 2 times 2 is due.
        CHECK.due("and the image", x.back(1) * 10 + x.now(6), 40);
    }

    public static void main(String[] args) throws IOException {
        hinges();
        moves();
        movesInto();
        opens();
        carts();
        cartsOn();
        leaf();
        fog();
        bills();
        mostOwed();
        whatChanges();
        undoNone();
        tenAreKnown();
        eachIsUndone();
        nothingElseIsUndone();
        CHECK.end();
    }
}
