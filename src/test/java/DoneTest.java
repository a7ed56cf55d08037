/** Promises 7 to 14: hinges, moves, opens, cart, leaf, fog, bills, undo. */
public final class DoneTest {
    private static final Check CHECK = new Check();
    private static final int BAD = FacingDoors.BAD, STATE = FacingDoors.STATE;

    private static void hinges() {
        Doors x = Check.quarterOf(Check.THREE);
        CHECK.due("hinges to what it is", x.hinges(0, 1), STATE);
        CHECK.due("hinges", x.hinges(0, 3), 1);
        CHECK.due("facing then", x.door(0, 2), 3);
        CHECK.due("due then", x.now(0), 12);
        CHECK.due("hinges again", x.hinges(0, 0), 3);
        CHECK.due("may be undone", x.count(6), 2);
        CHECK.due("hinges of none", x.hinges(3, 0), BAD);
        CHECK.due("hinges of -1", x.hinges(-1, 0), BAD);
        CHECK.due("hinges to -1", x.hinges(0, -1), BAD);
        CHECK.due("hinges to 4", x.hinges(0, 4), BAD);
        CHECK.due("undone", x.undo() * 10 + x.door(0, 2), 13);
    }

    private static void moves() {
        Doors x = Check.quarterOf(Check.THREE);
        CHECK.due("moves out, up", x.moves(0, 0), STATE);
        CHECK.due("moves out, left", x.moves(0, 3), STATE);
        CHECK.due("moves out, right", x.moves(1, 1), STATE);
        CHECK.due("moves out, down", x.moves(2, 2), STATE);
        CHECK.due("moves right", x.moves(0, 1), 1);
        CHECK.due("is there", x.cell(1, 0) * 100 + x.cell(0, 0), 1000);
        CHECK.due("facing stays", x.door(0, 2), 1);
        CHECK.due("moves into a wall", x.moves(0, 2), STATE);
        CHECK.due("moves on", x.moves(0, 1), 2);
        CHECK.due("moves into a tree", x.moves(0, 2), STATE);
        x.leaf(0);
        CHECK.due("moves into a bare tree", x.moves(0, 2), STATE);
        CHECK.due("moves into a door", x.moves(0, 1), STATE);
        CHECK.due("moves down", x.moves(1, 2), 4);
        CHECK.due("moves left", x.moves(2, 3), 5);
        CHECK.due("moves up is left free", x.moves(1, 0), 6);
        x.cart(3, 1, 1);
        CHECK.due("moves into a cart", x.moves(1, 2), STATE);
        CHECK.due("moves of none", x.moves(3, 0), BAD);
        CHECK.due("moves of -1", x.moves(-1, 0), BAD);
        CHECK.due("moves -1", x.moves(0, -1), BAD);
        CHECK.due("moves 4", x.moves(0, 4), BAD);
        for (int i = 7; i < 10; i++) {
            x.bills();
        }
        CHECK.due("ten at most may be undone", x.moves(0, 3), 10);
    }

    private static void opens() {
        Doors x = Check.quarterOf(Check.THREE);
        CHECK.due("opens what is open", x.opens(1, 1), STATE);
        CHECK.due("shuts", x.opens(1, 0), 0);
        CHECK.due("shuts what is shut", x.opens(1, 0), STATE);
        CHECK.due("who is open", x.now(1), 5);
        CHECK.due("is open", x.door(1, 3), 0);
        CHECK.due("the other one stares on", x.door(2, 5), 6);
        CHECK.due("opens", x.opens(1, 1), 6);
        CHECK.due("opens of none", x.opens(3, 0), BAD);
        CHECK.due("opens of -1", x.opens(-1, 0), BAD);
        CHECK.due("opens 2", x.opens(0, 2), BAD);
        CHECK.due("opens -1", x.opens(0, -1), BAD);
        CHECK.due("undone", x.undo() * 10 + x.now(1), 15);
    }

    private static void carts() {
        Doors x = Check.quarterOf(Check.THREE);
        CHECK.due("on a wall", x.cart(1, 1, 1), STATE);
        CHECK.due("on a tree", x.cart(2, 1, 1), STATE);
        x.leaf(0);
        CHECK.due("on a bare tree", x.cart(2, 1, 1), STATE);
        CHECK.due("on a door", x.cart(0, 0, 1), STATE);
        CHECK.due("leaves where none is", x.cart(1, 0, 0), STATE);
        CHECK.due("parked", x.cart(1, 0, 1), 1);
        CHECK.due("parked again", x.cart(1, 0, 1), STATE);
        CHECK.due("a second one", x.cart(3, 1, 1), 2);
        CHECK.due("nothing is due", x.now(0), 0);
        CHECK.due("leaves", x.cart(1, 0, 0), 1);
        CHECK.due("carts", x.now(4), 1);
        CHECK.due("undone", x.undo() * 10 + x.now(4), 32);
        CHECK.due("x -1", x.cart(-1, 0, 1), BAD);
        CHECK.due("x 4", x.cart(4, 0, 1), BAD);
        CHECK.due("y -1", x.cart(0, -1, 1), BAD);
        CHECK.due("y 3", x.cart(0, 3, 1), BAD);
        CHECK.due("is 2", x.cart(0, 1, 2), BAD);
        CHECK.due("is -1", x.cart(0, 1, -1), BAD);
        Doors far = Check.quarterOf(
            "w7;rfffffff;rfffffff;rfffffff;rfffffff;rfffffff;rfffffff;rfffffff;");
        CHECK.due("the last cell", far.cart(6, 6, 1) * 10 + far.cell(6, 6), 13);
        CHECK.due("and no other", far.cell(0, 0) + far.cell(3, 2) + far.cell(2, 2), 0);
    }

    private static void leafAndFog() {
        Doors x = Check.quarterOf("w3;rftf;d0 0 1;d2 0 3;p9;");
        CHECK.due("in leaf already", x.leaf(1), STATE);
        CHECK.due("no fog already", x.fog(0), STATE);
        CHECK.due("bare", x.leaf(0), 36);
        CHECK.due("bare already", x.leaf(0), STATE);
        CHECK.due("fog", x.fog(1), 0);
        CHECK.due("fog already", x.fog(1), STATE);
        CHECK.due("fog lifts", x.fog(0), 36);
        CHECK.due("in leaf", x.leaf(1), 0);
        CHECK.due("leaf 2", x.leaf(2), BAD);
        CHECK.due("leaf -1", x.leaf(-1), BAD);
        CHECK.due("fog 2", x.fog(2), BAD);
        CHECK.due("fog -1", x.fog(-1), BAD);
        CHECK.due("undone", x.undo() * 10 + x.now(5), 30);
        CHECK.due("undone too", x.undo() * 10 + x.now(6), 21);
    }

    private static void bills() {
        Doors x = Check.quarterOf(Check.THREE);
        CHECK.due("bills", x.bills(), 15);
        x.opens(0, 0);
        CHECK.due("bills of those open", x.bills(), 12);
        CHECK.due("owed by 0", x.door(0, 8), 3);
        CHECK.due("owed by 1", x.door(1, 8), 12);
        CHECK.due("owed by all", x.now(7), 27);
        CHECK.due("undone", x.undo() * 100 + x.now(7), 215);
    }

    /** Twelve things of every sort, one behind the other. */
    private static int done(Doors x, int i) {
        switch (i) {
            case 0: case 6: return x.bills();
            case 1: return x.moves(0, 1);
            case 2: return x.opens(2, 0);
            case 3: return x.hinges(1, 3);
            case 4: return x.leaf(0);
            case 5: return x.cart(0, 0, 1);
            case 7: return x.fog(1);
            case 8: return x.moves(0, 1);
            case 9: return x.cart(0, 0, 0);
            case 10: return x.opens(2, 1);
            default: return x.fog(0);
        }
    }

    private static Doors behind(int things) {
        Doors x = Check.quarterOf(Check.THREE);
        for (int i = 0; i < things; i++) {
            CHECK.due("done " + i + " is refused", done(x, i) < 0 ? 1 : 0, 0);
            CHECK.due("may be undone", x.count(6), Math.min(10, i + 1));
        }
        return x;
    }

    private static void undo() {
        CHECK.due("nothing to be undone", behind(0).undo(), STATE);
        for (int undone = 1; undone <= 10; undone++) {
            Doors x = behind(12);
            for (int i = 1; i <= undone; i++) {
                CHECK.due("undo " + i, x.undo(), 10 - i);
            }
            CHECK.same("as ahead of " + (12 - undone), Check.scene(x), Check.scene(behind(12 - undone)));
        }
        Doors x = behind(12);
        for (int left = 9; left >= 0; left--) {
            x.undo();
        }
        CHECK.due("older ones are lost", x.undo(), STATE);
        CHECK.due("undone again", x.fog(1) + x.undo(), 0);
        Doors y = Check.quarterOf("w2;rff;rff;d0 0 2;");
        y.moves(0, 2);
        y.moves(0, 1);
        CHECK.due("undo right", y.undo() * 100 + y.door(0, 0) * 10 + y.door(0, 1), 101);
        CHECK.due("undo down", y.undo() * 100 + y.door(0, 0) * 10 + y.door(0, 1), 0);
    }

    public static void main(String[] args) {
        hinges();
        moves();
        opens();
        carts();
        leafAndFog();
        bills();
        undo();
        CHECK.end();
    }
}
