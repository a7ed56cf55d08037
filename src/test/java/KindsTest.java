/** Promises 24 to 28: mark, keep, back, count (how many may be undone), trace. */
public final class KindsTest {
    private static final Check CHECK = new Check();
    private static final int BAD = FacingDoors.BAD, STATE = FacingDoors.STATE, NO = FacingDoors.NO;

    private static void marks() {
        Doors x = Check.quarterOf(Check.THREE);
        x.bills();
        int[] want = {6, 8, 4, 16, 11, 12};
        long[] trace = {1, 11, 101, 1011, 10101, 100001};
        long sum = 0;
        for (int kind = 0; kind < 6; kind++) {
            CHECK.due("mark as " + kind, x.mark(kind, 1), want[kind]);
            sum += trace[kind];
            CHECK.due("trace as " + kind, x.trace(), sum);
        }
        CHECK.due("mark as -1", x.mark(-1, 1), NO);
        CHECK.due("mark as 6", x.mark(6, 1), NO);
        CHECK.due("mark of -1", x.mark(0, -1), NO);
        CHECK.due("mark of 3", x.mark(0, 3), NO);
        CHECK.due("trace stays when refused", x.trace(), 111226);
        x.opens(1, 0);
        CHECK.due("shut: as a gate", x.mark(2, 1), -2);
        CHECK.due("shut: as a school", x.mark(4, 1), -2);
        CHECK.due("shut: as a bay", x.mark(3, 1), 4);
        CHECK.due("shut: as a hatch", x.mark(5, 1), 6);
        CHECK.due("trace", x.trace(), 111226 + 101 + 10101 + 1011 + 100001);
        x.undo();
        x.clear();
        Check.tell(x, Check.STREET);
        CHECK.due("trace stays when read anew", x.trace(), 111226 + 101 + 10101 + 1011 + 100001);
        CHECK.due("trace is not mended by asking", x.trace(), 111226 + 101 + 10101 + 1011 + 100001);
    }

    private static int done(Doors x, int i) {
        switch (i) {
            case 0: return x.bills();
            case 1: return x.moves(0, 1);
            case 2: return x.hinges(1, 3);
            case 3: return x.opens(2, 0);
            case 4: return x.cart(2, 2, 1);
            default: return x.leaf(0);
        }
    }

    private static void images() {
        Doors x = Check.quarterOf(Check.THREE);
        CHECK.due("none kept", x.back(0), STATE);
        CHECK.due("keep -1", x.keep(-1), BAD);
        CHECK.due("keep 2", x.keep(2), BAD);
        CHECK.due("back -1", x.back(-1), BAD);
        CHECK.due("back 2", x.back(2), BAD);
        CHECK.due("keep", x.keep(0), 15);
        CHECK.due("the other one is not kept", x.back(1), STATE);
        for (int i = 0; i < 6; i++) {
            CHECK.due("done " + i + " is refused", done(x, i) < 0 ? 1 : 0, 0);
        }
        CHECK.due("keep 1", x.keep(1), 12);
        x.fog(1);
        x.mark(0, 0);
        CHECK.due("back 0", x.back(0), 15);
        CHECK.same("as kept", Check.scene(x), Check.scene(behind(0)));
        CHECK.due("nothing to be undone there", x.count(6), 0);
        CHECK.due("the trace is not of the image", x.trace(), 1);
        CHECK.due("undo there", x.undo(), STATE);
        for (int i = 0; i < 11; i++) {
            x.fog(1 - i % 2);
        }
        CHECK.due("back 1", x.back(1), 12);
        CHECK.same("as kept in 1", Check.scene(x), Check.scene(behind(6)));
        CHECK.due("what may be undone comes back", x.count(6), 6);
        x.undo();
        x.fog(1);
        CHECK.due("back again", x.back(1), 12);
        CHECK.same("the image stays what it was", Check.scene(x), Check.scene(behind(6)));
        CHECK.due("kept anew over the old", x.fog(1) + x.keep(1), 0);
        x.back(0);
        x.back(1);
        CHECK.due("as kept anew", x.now(6) * 10 + x.count(6), 17);
    }

    private static Doors behind(int things) {
        Doors x = Check.quarterOf(Check.THREE);
        for (int i = 0; i < things; i++) {
            done(x, i);
        }
        return x;
    }

    private static void whatIsUndoneOfAnImage() {
        for (int undone = 1; undone <= 6; undone++) {
            Doors x = behind(6);
            x.keep(1);
            for (int i = 0; i < 11; i++) {
                x.fog(1 - i % 2);
            }
            x.back(1);
            for (int i = 1; i <= undone; i++) {
                CHECK.due("undo", x.undo(), 6 - i);
            }
            CHECK.same("as ahead of " + (6 - undone), Check.scene(x), Check.scene(behind(6 - undone)));
        }
    }

    /** The most there can be, asked all over and compared with itself undone. */
    private static void sixDoors() {
        Doors x = Check.quarterOf(
            "w7;rfffffff;rfffffff;rfffffff;rfffffff;rfffffff;rfffffff;rfffffff;"
            + "d0 0 1;d6 0 2;d6 6 3;d0 6 0;d3 0 2;d3 6 0;");
        // 0 sees 4, 1 sees 2, 2 sees 5, 3 sees 0, 4 and 5 stare at one another.
        int[] whom = {16, 4, 32, 1, 32, 16};
        for (int d = 0; d < 6; d++) {
            CHECK.due("of six, door " + d + " sees", x.door(d, 4), whom[d]);
        }
        CHECK.due("six: a seventh", x.door(6, 0), BAD);
        CHECK.due("six: dues", x.now(0), 8);
        CHECK.due("six: way in", x.now(2), 63);
        CHECK.due("six: bills", x.bills() + x.now(7), 16);
        CHECK.due("six: cart", x.cartAt(), 13);
        CHECK.due("six: bound", x.bound(0), 0);
        // Each must see someone; 4 looks right, or 5 left: the first of both is that 4 is turned.
        CHECK.due("six: least", x.turn(-1), 6);
        CHECK.due("six: turned", x.turn(-2), 1);
        CHECK.due("six: facing of 4 and 5", x.turn(4) * 10 + x.turn(5), 10);
        CHECK.due("six: all sets", x.open(0), 64);
        CHECK.due("six: mean", x.mean(5, 0), 4);
        CHECK.due("six: undone", x.undo() + x.now(7), 0);
        CHECK.due("six: mark", x.mark(3, 5), 8);
    }

    private static void notInImages() {
        Doors x = Check.quarterOf(Check.THREE);
        x.tells(0, 3);
        x.keep(0);
        x.tells(1, 0);
        x.type('w');
        x.back(0);
        CHECK.due("what was told stays", x.count(5), 2);
        CHECK.due("the text stays", x.count(7), 1);
        x.bills();
        x.keep(1);
        x.undo();
        CHECK.due("an undo leaves the image", x.back(1) * 100 + x.now(7), 1515);
        for (int i = 0; i < 12; i++) {
            x.bills();
        }
        x.keep(0);
        x.undo();
        x.back(0);
        CHECK.due("ten that may be undone are kept", x.count(6) * 1000 + x.now(7), 10195);
        for (int left = 9; left >= 0; left--) {
            CHECK.due("undo of ten", x.undo() * 1000 + x.now(7), left * 1000 + 45 + 15 * left);
        }
    }

    private static void refusedChangesNothing() {
        Doors x = Check.quarterOf(Check.THREE);
        x.bills();
        x.mark(3, 1);
        for (int i = 0; i < 6; i++) {
            x.tells(0, 3);
        }
        String was = Check.picture(x);
        int[] wrong = {-1, 100, Integer.MIN_VALUE, Integer.MAX_VALUE};
        for (int n : wrong) {
            int[] answers = {x.type(n == 100 ? 256 : n == Integer.MAX_VALUE ? n : -1), x.cell(n, 0), x.cell(0, n),
                x.door(n, 0), x.door(0, n), x.hinges(n, 0), x.hinges(0, n), x.moves(n, 1), x.moves(0, n),
                x.opens(n, 0), x.opens(0, n), x.cart(n, 0, 1), x.cart(1, n, 1), x.cart(1, 0, n), x.leaf(n), x.fog(n),
                x.now(n), x.turn(n == -1 ? -3 : n), x.bound(n), x.tells(n, 0), x.tells(0, n), x.open(n),
                x.odds(n, 0, 0), x.odds(5, n, 0), x.odds(5, 0, n), x.mean(n, 0), x.mean(5, n), x.keep(n), x.back(n),
                x.count(n)};
            for (int i = 0; i < answers.length; i++) {
                CHECK.due("the call " + i + " with " + n, answers[i], BAD);
            }
            CHECK.due("mark as " + n, x.mark(n, 0), NO);
            CHECK.due("mark of " + n, x.mark(0, n), NO);
        }
        int[] states = {x.hinges(0, 1), x.moves(0, 0), x.opens(0, 1), x.cart(0, 0, 1), x.cart(1, 0, 0), x.leaf(1),
            x.fog(0), x.back(0), x.back(1)};
        for (int i = 0; i < states.length; i++) {
            CHECK.due("the call " + i + " that can't be", states[i], STATE);
        }
        CHECK.due("told too much", x.tells(0, 0), FacingDoors.FULL);
        CHECK.same("nothing changes", Check.picture(x), was);
        CHECK.due("nor what may be undone", x.undo() * 10 + x.now(7), 0);
    }

    public static void main(String[] args) {
        marks();
        images();
        whatIsUndoneOfAnImage();
        sixDoors();
        notInImages();
        refusedChangesNothing();
        CHECK.end();
    }
}
