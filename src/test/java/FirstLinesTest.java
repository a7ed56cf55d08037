import java.io.IOException;

/** What the document's first lines say of the whole, clause by clause: how the parts hang together. */
public final class FirstLinesTest {
    private static final Check CHECK = new Check();
    private static final int NONE = FacingDoors.NONE;
    /** 0 and 1 stare at one another, 2 sees 0, 3 has no way in, and a tree hides 5 from 4; the price is 3. */
    private static final String OLD = "w6;rffffff;rfxffff;rffffff;rxfffff;rfffftf;"
        + "d0 0 1;d5 0 3;d0 2 0;d0 4 0;d3 4 1;d5 4 0;p3;s6;";

    private static void quarter() throws IOException {
        CHECK.says("# FacingDoors ## What it is Doors that face: an old quarter of cells, walls, trees in leaf");
        Doors x = Check.quarterOf(OLD);
        CHECK.due("a cell", x.cell(1, 0), 0);
        CHECK.due("a wall", x.cell(1, 1), 1);
        CHECK.due("a tree", x.cell(4, 4), 2);
        CHECK.due("it is in leaf", x.now(5), 1);
        CHECK.says("in which a door pays for every door it can see, double for one that stares back, told by a text");
        int[] pays = {6, 6, 3, 0, 0, 3};
        x.bills();
        for (int d = 0; d < 6; d++) {
            CHECK.due("door " + d + " pays", x.door(d, 8), pays[d]);
        }
        CHECK.due("another text", Check.tell(x, "w1;rf;"), 2);
        CHECK.due("tells another quarter", x.count(0) * 100 + x.count(1) * 10 + x.count(2), 110);
    }

    private static void undone() throws IOException {
        CHECK.says("hinges turned, doors moved by a cell, opened and shut, carts parked, leaves that fall, fog, bills, "
            + "all of it undone");
        Doors x = Check.quarterOf(OLD);
        String was = Check.scene(x);
        int done = 0;
        done += x.hinges(2, 1) >= 0 ? 1 : 0;
        done += x.moves(1, 2) >= 0 ? 1 : 0;
        done += x.opens(0, 0) >= 0 ? 1 : 0;
        done += x.opens(0, 1) >= 0 ? 1 : 0;
        done += x.cart(2, 0, 1) >= 0 ? 1 : 0;
        done += x.leaf(0) >= 0 ? 1 : 0;
        done += x.fog(1) >= 0 ? 1 : 0;
        done += x.bills() >= 0 ? 1 : 0;
        CHECK.due("done", done, 8);
        for (int left = 7; left >= 0; left--) {
            CHECK.due("undone", x.undo(), left);
        }
        CHECK.same("as ahead of it all", Check.scene(x), was);
    }

    private static void asked() throws IOException {
        CHECK.says("who sees whom, who owes what, which door has no way in");
        Doors x = Check.quarterOf(OLD);
        int[] sees = {2, 1, 1, 0, 0, 2}, owes = {6, 6, 3, 0, 0, 3};
        for (int d = 0; d < 6; d++) {
            CHECK.due("whom " + d + " sees", x.door(d, 4), sees[d]);
            CHECK.due("what " + d + " owes", x.door(d, 5), owes[d]);
            CHECK.due("whether " + d + " has a way in", x.door(d, 6), d == 3 || d == 4 ? 0 : 1);
        }
        CHECK.due("who has a way in", x.now(2), 63 - 8 - 16);
    }

    /** The hinges are turned as they should be: then so much is owed, each has its way in, and none need be turned. */
    private static void turned(String text) {
        Doors x = Check.quarterOf(text);
        int due = x.turn(-1), many = x.turn(-2), turned = 0, was = x.now(0), all = (1 << x.count(2)) - 1;
        boolean each = x.now(2) == all;
        int[] facing = new int[6];
        for (int d = 0; d < x.count(2); d++) {
            facing[d] = x.turn(d);
        }
        for (int d = 0; d < x.count(2); d++) {
            turned += x.hinges(d, facing[d]) == FacingDoors.STATE ? 0 : 1;
        }
        CHECK.due(text + ": so many are turned", turned, many);
        CHECK.due(text + ": so much is owed then", x.now(0), due);
        CHECK.due(text + ": each has its way in", x.now(2), all);
        CHECK.due(text + ": no more than before", !each || due <= was ? 1 : 0, 1);
        CHECK.due(text + ": no less can be owed", x.turn(-1), due);
        CHECK.due(text + ": none need be turned", x.turn(-2), 0);
        for (int d = 0; d < x.count(2); d++) {
            CHECK.due(text + ": door " + d + " stays", x.turn(d), facing[d]);
        }
    }

    private static void howItShouldBe() throws IOException {
        CHECK.says("how hinges should be turned so that least is owed and each has its way in, with fewest turned");
        turned(OLD);
        turned(Check.THREE);
        turned(Check.STREET);
        turned("w7;rfffffff;rfffffff;d0 0 1;d2 0 1;d4 0 1;d6 0 3;d3 1 0;d5 1 3;p9;");
        turned("w3;rfff;rfxf;rfff;d0 0 1;d2 0 2;d2 2 3;d0 2 0;");
        CHECK.says("where one cart brings most relief");
        Doors x = Check.quarterOf(OLD);
        int at = x.cartAt();
        CHECK.due("between 0 and 1", at, 1);
        CHECK.due("it is parked", x.cart(at % 10, at / 10, 1), 1);
        CHECK.due("12 of 18 are gone", x.now(0), 6);
        CHECK.due("the next one", x.cartAt(), 10);
        CHECK.says("which two can't be parted");
        Doors street = Check.quarterOf(Check.STREET);
        CHECK.due("0 and 1", street.bound(0) * 100 + street.bound(1), 101);
        Doors old = Check.quarterOf(OLD);
        CHECK.due("5 must look at 1, and 3 at 4", old.bound(0) * 100 + old.bound(1), 215);
        CHECK.due("by the cart 0 must look at 2, too", x.bound(0) * 100 + x.bound(1), 302);
        Doors crossing = Check.quarterOf("w3;rfff;rfff;rfff;d0 0 1;d2 0 3;");
        CHECK.due("in the open all can", crossing.bound(0) * 100 + crossing.bound(1), NONE);
    }

    /** Whoever is open, and is billed: by those bills the same set is found, or a lesser one that owes the same. */
    private static void whoStoodOpen() throws IOException {
        CHECK.says("who stood open, by who was billed");
        for (int set = 0; set < 64; set++) {
            Doors x = Check.quarterOf(OLD);
            for (int d = 0; d < 6; d++) {
                x.opens(d, set >> d & 1);
            }
            x.bills();
            for (int d = 0; d < 6; d++) {
                x.tells(d, x.door(d, 8));
            }
            // Whether 3 and 4 stood open nobody can tell: they owe nothing.
            CHECK.due("how many sets", x.open(0), 4);
            CHECK.due("the least", x.open(1), set & 63 - 8 - 16);
            CHECK.due("those in all", x.open(2), set & 63 - 8 - 16);
        }
    }

    /** The mean is the sum of the odds of 1 or more, 2 or more, and so on. */
    private static void breezes() throws IOException {
        CHECK.says("the odds of breezes, the mean of what is owed");
        for (int tenths = 0; tenths <= 10; tenths++) {
            Doors x = Check.quarterOf(OLD);
            long millionths = 0;
            for (int v = 1; v <= 99; v++) {
                millionths += x.odds(tenths, v, 0) * (1000000L / x.odds(tenths, v, 1));
            }
            CHECK.due("by " + tenths, x.mean(tenths, 0) * (1000000L / x.mean(tenths, 1)), millionths);
        }
        Doors x = Check.quarterOf(OLD);
        CHECK.due("when all are open, what is owed", x.mean(10, 0), x.now(0));
    }

    private static void kindsAndImages() throws IOException {
        CHECK.says("doors by kinds; images. ======== 1 THE QUARTER:");
        Doors x = Check.quarterOf(OLD);
        CHECK.due("door 0 as a bay: what it owes, and two see it, twice", x.mark(3, 0), 16);
        CHECK.due("kept", x.keep(1), 18);
        String was = Check.scene(x);
        x.fog(1);
        x.bills();
        CHECK.due("back", x.back(1), 18);
        CHECK.same("as it was", Check.scene(x), was);
    }

    public static void main(String[] args) throws IOException {
        quarter();
        undone();
        asked();
        howItShouldBe();
        whoStoodOpen();
        breezes();
        kindsAndImages();
        CHECK.end();
    }
}
