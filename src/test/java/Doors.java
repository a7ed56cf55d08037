/**
 * A FacingDoors that counts its calls: the document promises what 512 of them answer, so no test may lean on more.
 * (One does, and says so: a DOOR can't have OWED 9999 any sooner.)
 */
final class Doors {
    static final int MOST_CALLS = 512;

    private final FacingDoors doors = new FacingDoors();
    private int calls = 0;

    int calls() {
        return calls;
    }

    private FacingDoors used() {
        calls++;
        if (calls > MOST_CALLS) {
            throw new IllegalStateException("what call " + calls + " of an object answers is free");
        }
        return doors;
    }

    int type(int c) {
        return used().type(c);
    }

    int clear() {
        return used().clear();
    }

    int quarter() {
        return used().quarter();
    }

    int cell(int x, int y) {
        return used().cell(x, y);
    }

    int door(int d, int what) {
        return used().door(d, what);
    }

    int hinges(int d, int facing) {
        return used().hinges(d, facing);
    }

    int moves(int d, int way) {
        return used().moves(d, way);
    }

    int opens(int d, int is) {
        return used().opens(d, is);
    }

    int cart(int x, int y, int is) {
        return used().cart(x, y, is);
    }

    int leaf(int is) {
        return used().leaf(is);
    }

    int fog(int is) {
        return used().fog(is);
    }

    int bills() {
        return used().bills();
    }

    int undo() {
        return used().undo();
    }

    int now(int what) {
        return used().now(what);
    }

    int turn(int d) {
        return used().turn(d);
    }

    int cartAt() {
        return used().cartAt();
    }

    int bound(int what) {
        return used().bound(what);
    }

    int tells(int d, int v) {
        return used().tells(d, v);
    }

    int forget() {
        return used().forget();
    }

    int open(int what) {
        return used().open(what);
    }

    int odds(int x, int v, int what) {
        return used().odds(x, v, what);
    }

    int mean(int x, int what) {
        return used().mean(x, what);
    }

    int mark(int kind, int d) {
        return used().mark(kind, d);
    }

    int keep(int image) {
        return used().keep(image);
    }

    int back(int image) {
        return used().back(image);
    }

    int count(int what) {
        return used().count(what);
    }

    long trace() {
        return used().trace();
    }
}
