import java.io.IOException;
import java.util.function.ToLongFunction;

/**
 * Every way in which a call is refused: what it answers, and that nothing changes. For the latter, all there is to know
 * of the object is compared with a twin's, to whom everything happened but the refused call.
 */
public final class RefusedEdgesTest {
    private static final Check CHECK = new Check();
    private static final int BAD = FacingDoors.BAD, STATE = FacingDoors.STATE, FULL = FacingDoors.FULL,
        NO = FacingDoors.NO;
    private static final String QUARTER = "w3;rftf;rfff;d0 0 1;d2 0 3;p2;";

    /** Something of everything: seven things done, both images kept, two told, a text begun, a trace. */
    private static Doors rich() {
        Doors x = Check.quarterOf(QUARTER);
        x.bills();
        x.leaf(0);
        x.cart(1, 1, 1);
        x.keep(0);
        x.opens(0, 0);
        x.moves(1, 2);
        x.keep(1);
        x.hinges(1, 0);
        x.fog(1);
        x.tells(0, 4);
        x.tells(1, 0);
        x.mark(3, 1);
        Check.typeAll(x, "p9");
        return x;
    }

    private static String state(Doors x) {
        StringBuilder all = new StringBuilder();
        for (int d = 0; d < 2; d++) {
            all.append(x.door(d, 2)).append(x.door(d, 3)).append(x.door(d, 8)).append(' ');
        }
        for (int n = 0; n < 6; n++) {
            all.append(x.cell(n % 3, n / 3)).append(' ');
        }
        return all.append(x.now(5)).append(x.now(6)).append('\n').toString();
    }

    private static String past(Doors x) {
        StringBuilder all = new StringBuilder(state(x));
        for (int left = x.undo(); left >= 0; left = x.undo()) {
            all.append(left).append(": ").append(state(x));
        }
        return all.toString();
    }

    /** All there is to know, by calls that change the object: what is NOW, its past, the images, the text. */
    private static String all(Doors x) {
        String all = Check.picture(x) + past(x) + x.back(0) + past(x) + x.back(1) + past(x);
        return all + x.type(';') + x.quarter() + x.count(3) + x.trace();
    }

    private static void refused(String what, ToLongFunction<Doors> call, int want) {
        Doors x = rich();
        CHECK.due(what, call.applyAsLong(x), want);
        CHECK.due(what + " once more", call.applyAsLong(x), want);
        CHECK.same(what + " changes nothing", all(x), all(rich()));
    }

    // ---- BAD

    private static void badOfTheQuarter(int n) {
        refused("type", x -> x.type(n < 0 ? n : n + 256), BAD);
        refused("cell " + n + " 0", x -> x.cell(n, 0), BAD);
        refused("cell 0 " + n, x -> x.cell(0, n), BAD);
        refused("door " + n, x -> x.door(n, 0), BAD);
        refused("door 0 " + n, x -> x.door(0, n < 0 ? n : n + 9), BAD);
        refused("now " + n, x -> x.now(n < 0 ? n : n + 8), BAD);
        refused("count " + n, x -> x.count(n < 0 ? n : n + 8), BAD);
    }

    private static void badOfWhatIsDone(int n) {
        refused("hinges " + n, x -> x.hinges(n, 1), BAD);
        refused("hinges 0 " + n, x -> x.hinges(0, n < 0 ? n : n + 4), BAD);
        refused("moves " + n, x -> x.moves(n, 2), BAD);
        refused("moves 0 " + n, x -> x.moves(0, n < 0 ? n : n + 4), BAD);
        refused("opens " + n, x -> x.opens(n, 1), BAD);
        refused("opens 0 " + n, x -> x.opens(0, n), BAD);
        refused("cart " + n, x -> x.cart(n, 0, 1), BAD);
        refused("cart 0 " + n, x -> x.cart(0, n, 1), BAD);
        refused("cart 0 1 " + n, x -> x.cart(0, 1, n), BAD);
        refused("leaf " + n, x -> x.leaf(n), BAD);
        refused("fog " + n, x -> x.fog(n), BAD);
    }

    private static void badOfTheRest(int n) {
        refused("turn " + n, x -> x.turn(n < 0 ? n - 2 : n), BAD);
        refused("bound " + n, x -> x.bound(n), BAD);
        refused("tells " + n, x -> x.tells(n, 0), BAD);
        refused("tells 0 " + n, x -> x.tells(0, n < 0 ? n : n + 100), BAD);
        refused("open " + n, x -> x.open(n < 0 ? n : n + 3), BAD);
        refused("odds " + n, x -> x.odds(n < 0 ? n : n + 11, 0, 0), BAD);
        refused("odds 0 " + n, x -> x.odds(0, n < 0 ? n : n + 100, 0), BAD);
        refused("odds 0 0 " + n, x -> x.odds(0, 0, n), BAD);
        refused("mean " + n, x -> x.mean(n < 0 ? n : n + 11, 0), BAD);
        refused("mean 0 " + n, x -> x.mean(0, n), BAD);
        refused("mark " + n, x -> x.mark(n < 0 ? n : n + 6, 0), NO);
        refused("mark 0 " + n, x -> x.mark(0, n), NO);
        refused("keep " + n, x -> x.keep(n), BAD);
        refused("back " + n, x -> x.back(n), BAD);
    }

    /** All numbers from 3 on and below 0 are beyond what there is in this quarter, moved on where more is taken. */
    private static void bad() throws IOException {
        CHECK.says("BAD (a number is not as told, or there is no such thing)");
        for (int n : new int[] {-1, 3, Integer.MAX_VALUE - 1000, -Integer.MAX_VALUE + 1000}) {
            badOfTheQuarter(n);
            badOfWhatIsDone(n);
            badOfTheRest(n);
        }
    }

    /** The first number that is refused, on both sides, of each. */
    private static void firstRefused() throws IOException {
        CHECK.says("Refused, and nothing changes");
        refused("cell 0 2", x -> x.cell(0, 2), BAD);
        refused("door 2", x -> x.door(2, 0), BAD);
        refused("hinges 2", x -> x.hinges(2, 0), BAD);
        refused("hinges 0 4", x -> x.hinges(0, 4), BAD);
        refused("moves 2", x -> x.moves(2, 0), BAD);
        refused("moves 0 4", x -> x.moves(0, 4), BAD);
        refused("opens 2", x -> x.opens(2, 0), BAD);
        refused("opens 0 2", x -> x.opens(0, 2), BAD);
        refused("cart 0 2", x -> x.cart(0, 2, 1), BAD);
        refused("cart 0 1 2", x -> x.cart(0, 1, 2), BAD);
        refused("leaf 2", x -> x.leaf(2), BAD);
        refused("fog 2", x -> x.fog(2), BAD);
        refused("turn 2", x -> x.turn(2), BAD);
        refused("bound 2", x -> x.bound(2), BAD);
        refused("tells 2", x -> x.tells(2, 0), BAD);
        refused("odds 0 0 2", x -> x.odds(0, 0, 2), BAD);
        refused("mean 0 2", x -> x.mean(0, 2), BAD);
        refused("mark 0 2", x -> x.mark(0, 2), NO);
        refused("keep 2", x -> x.keep(2), BAD);
        refused("back 2", x -> x.back(2), BAD);
    }

    // ---- STATE

    private static void state() throws IOException {
        CHECK.says("STATE (as told), FULL");
        refused("hinges as they are", x -> x.hinges(1, 0), STATE);
        refused("moves out", x -> x.moves(0, 0), STATE);
        refused("moves into a tree", x -> x.moves(0, 1), STATE);
        refused("moves into a cart", x -> x.moves(1, 3), STATE);
        refused("shut as it is", x -> x.opens(0, 0), STATE);
        refused("open as it is", x -> x.opens(1, 1), STATE);
        refused("a cart on a cart", x -> x.cart(1, 1, 1), STATE);
        refused("a cart on a tree", x -> x.cart(1, 0, 1), STATE);
        refused("a cart on a door", x -> x.cart(0, 0, 1), STATE);
        refused("a cart leaves where none is", x -> x.cart(0, 1, 0), STATE);
        refused("leaf as it is", x -> x.leaf(0), STATE);
        refused("fog as it is", x -> x.fog(1), STATE);
        refused("a FAULT", x -> x.quarter(), -12);
        Doors none = Check.quarterOf(QUARTER);
        CHECK.due("undo of none", none.undo(), STATE);
        CHECK.due("back of none", none.back(0) + none.back(1), 2 * STATE);
        CHECK.same("none of which changes anything", Check.picture(none), Check.picture(Check.quarterOf(QUARTER)));
    }

    // ---- FULL

    private static Doors full() {
        Doors x = Check.quarterOf(QUARTER);
        x.bills();
        for (int n = 0; n < 6; n++) {
            x.tells(0, 0);
        }
        Check.typeAll(x, "p9;" + " ".repeat(147));
        return x;
    }

    private static void full(String what, ToLongFunction<Doors> call, int want) {
        Doors x = full();
        CHECK.due(what, call.applyAsLong(x), want);
        CHECK.same(what + " changes nothing", Check.picture(x) + x.quarter() + x.count(3),
            Check.picture(full()) + 1 + 9);
    }

    private static void fullIsLast() throws IOException {
        CHECK.says("the first of these: BAD (a number is not as told, or there is no such thing), STATE (as told), FULL.");
        full("a seventh told", x -> x.tells(0, 4), FULL);
        full("a seventh of no door", x -> x.tells(2, 4), BAD);
        full("a seventh of door -1", x -> x.tells(-1, 4), BAD);
        full("a seventh of -1", x -> x.tells(0, -1), BAD);
        full("a seventh of 100", x -> x.tells(0, 100), BAD);
        full("a byte too many", x -> x.type('!'), FULL);
        full("the byte -1 too many", x -> x.type(-1), BAD);
        full("the byte 256 too many", x -> x.type(256), BAD);
        Doors none = Check.quarterOf(QUARTER);
        CHECK.due("no such image, and none kept", none.back(2), BAD);
        CHECK.due("no such cell, and no cart there", none.cart(3, 0, 0), BAD);
        CHECK.due("no such way, and all are shut in", none.moves(0, 4), BAD);
        CHECK.due("neither in leaf nor bare", none.leaf(2), BAD);
    }

    public static void main(String[] args) throws IOException {
        bad();
        firstRefused();
        state();
        fullIsLast();
        CHECK.end();
    }
}
