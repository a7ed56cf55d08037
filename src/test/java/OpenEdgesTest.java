import java.io.IOException;

/** TOLD, OPEN, ODDS and MEAN, sentence by sentence; promises 19 to 23 at their edges. */
public final class OpenEdgesTest {
    private static final Check CHECK = new Check();
    private static final int BAD = FacingDoors.BAD, FULL = FacingDoors.FULL, NONE = FacingDoors.NONE;
    private static final int[] FAR_OFF = {Integer.MIN_VALUE, -10, 100, 256, Integer.MAX_VALUE};
    /** Three twos that stare at one another; each owes 18, all together 108. */
    private static final String SIX = "w3;rfff;rfff;rfff;d0 0 1;d2 0 3;d0 1 1;d2 1 3;d0 2 1;d2 2 3;p9;";

    /** So many doors, each of which sees the next but the last one, which sees none; each but that one owes 1. */
    private static Doors line(int doors) {
        StringBuilder text = new StringBuilder("w7;rfffffff;");
        for (int d = 0; d < doors; d++) {
            text.append("d" + d + " 0 1;");
        }
        return Check.quarterOf(text.toString());
    }

    // ---- promise 19

    private static void tells() throws IOException {
        CHECK.says("`int tells(int d, int v)`: TOLD: how much there is. BAD; FULL.");
        CHECK.due("of a new object", new Doors().tells(0, 0), BAD);
        CHECK.due("without doors", line(0).tells(0, 0), BAD);
        for (int doors = 1; doors <= 6; doors++) {
            Doors x = line(doors);
            CHECK.due("of door -1", x.tells(-1, 0), BAD);
            CHECK.due("of the first that there is not", x.tells(doors, 0), BAD);
            CHECK.due("of the last", x.tells(doors - 1, 0), 1);
            CHECK.due("of the first", x.tells(0, 0), 2);
        }
        Doors x = line(2);
        for (int far : FAR_OFF) {
            CHECK.due("of door " + far, x.tells(far, 0), BAD);
            CHECK.due("told " + far, x.tells(0, far), BAD);
        }
        CHECK.due("nothing was told", x.count(5), 0);
    }

    private static void sixAtMost() throws IOException {
        CHECK.says("TOLD (6 at most): a DOOR's DUE was v (0 .. 99).");
        Doors x = line(2);
        CHECK.due("told -1", x.tells(0, -1), BAD);
        CHECK.due("told 100", x.tells(0, 100), BAD);
        CHECK.due("told 0", x.tells(1, 0), 1);
        CHECK.due("told 99", x.tells(1, 99), 2);
        CHECK.due("all the same again", x.tells(1, 99), 3);
        for (int n = 4; n <= 6; n++) {
            CHECK.due("told, number " + n, x.tells(0, 1), n);
        }
        CHECK.due("a seventh", x.tells(0, 1), FULL);
        CHECK.due("an eighth", x.tells(1, 0), FULL);
        CHECK.due("a seventh of none", x.tells(2, 1), BAD);
        CHECK.due("a seventh of 100", x.tells(0, 100), BAD);
        CHECK.due("six are told", x.count(5), 6);
        x.forget();
        for (int n = 1; n <= 6; n++) {
            CHECK.due("told anew", x.tells(0, 1), n);
        }
        CHECK.due("a seventh that would change all", x.tells(0, 0), FULL);
        CHECK.due("it does not", x.open(0) * 10 + x.open(1), 21);
    }

    // ---- promise 20

    private static void forget() throws IOException {
        CHECK.says("`int forget()`: Nothing was TOLD: how much there was.");
        CHECK.due("a new object", new Doors().forget(), 0);
        for (int many = 0; many <= 6; many++) {
            Doors x = line(2);
            for (int n = 0; n < many; n++) {
                x.tells(0, 99);
            }
            CHECK.due("how many sets", x.open(0), many == 0 ? 4 : 0);
            CHECK.due("forget", x.forget(), many);
            CHECK.due("forget again", x.forget(), 0);
            CHECK.due("told", x.count(5), 0);
            CHECK.due("all sets again", x.open(0), 4);
        }
    }

    // ---- promise 21

    private static void sets(String why, Doors x, int many, int least, int common) {
        CHECK.due(why + ": how many", x.open(0), many);
        CHECK.due(why + ": the least", x.open(1), least);
        CHECK.due(why + ": in all", x.open(2), common);
        CHECK.due(why + ": -1", x.open(-1), BAD);
        CHECK.due(why + ": 3", x.open(3), BAD);
    }

    private static void openAsked() throws IOException {
        CHECK.says("`int open(int what)`: "
            + "OPEN: how many (what = 0), the least (1; NONE), those in all (2; NONE). BAD.");
        sets("a new object", new Doors(), 1, 0, 0);
        Doors x = line(1);
        sets("one door", x, 2, 0, 0);
        x.tells(0, 0);
        sets("it owes nothing, open or shut", x, 2, 0, 0);
        x.tells(0, 1);
        sets("it can't owe", x, 0, NONE, NONE);
        for (int far : FAR_OFF) {
            CHECK.due("open " + far, x.open(far), BAD);
        }
    }

    private static void setsOfDoors() throws IOException {
        CHECK.says("sets of DOORS (bits 0 .. 63) that were open, all else as NOW, by which all that was TOLD is so");
        Doors all = Check.quarterOf(SIX);
        for (int d = 0; d < 6; d++) {
            sets("those below " + d + " were open", all, 64 >> d, (1 << d) - 1, (1 << d) - 1);
            all.tells(d, 18);
        }
        sets("all were open", all, 1, 63, 63);
        Doors none = Check.quarterOf(SIX);
        for (int d = 5; d >= 0; d--) {
            none.tells(d, 0);
        }
        sets("none was open", none, 1, 0, 0);
        Doors last = Check.quarterOf(SIX);
        last.tells(5, 18);
        sets("the last was open", last, 32, 32, 32);
        for (int v : new int[] {1, 9, 17, 19, 99}) {
            last.forget();
            last.tells(5, v);
            sets("it never owes " + v, last, 0, NONE, NONE);
        }
        Doors now = Check.quarterOf(SIX);
        now.tells(0, 18);
        now.opens(0, 0);
        now.opens(1, 0);
        sets("whoever is open now", now, 32, 1, 1);
        now.hinges(1, 0);
        sets("nobody looks back now", now, 0, NONE, NONE);
        now.undo();
        now.fog(1);
        sets("fog now", now, 0, NONE, NONE);
        now.fog(0);
        now.cart(1, 0, 1);
        sets("a cart now", now, 0, NONE, NONE);
        now.undo();
        sets("undone", now, 32, 1, 1);
    }

    private static void doorsThereAre() throws IOException {
        CHECK.says("(A set has DOORS there are only.)");
        for (int doors = 0; doors <= 6; doors++) {
            Doors x = line(doors);
            sets("doors: " + doors, x, 1 << doors, 0, 0);
            if (doors > 1) {
                x.tells(doors - 2, 1);
                sets("the last but one of " + doors, x, 1 << doors - 1, 1 << doors - 2, 1 << doors - 2);
            }
        }
    }

    // ---- promise 22

    private static void odds(Doors x, int tenths, int v, int upper, int lower) {
        CHECK.due("odds " + tenths + " " + v + ", upper", x.odds(tenths, v, 0), upper);
        CHECK.due("odds " + tenths + " " + v + ", lower", x.odds(tenths, v, 1), lower);
    }

    private static void oddsAsked() throws IOException {
        CHECK.says("`int odds(int x, int v, int what)`: "
            + "ODDS: upper (what = 0), lower number (1), in least terms. BAD.");
        for (int tenths = 0; tenths <= 10; tenths++) {
            odds(new Doors(), tenths, 0, 1, 1);
            odds(new Doors(), tenths, 1, 0, 1);
            odds(line(6), tenths, 0, 1, 1);
            odds(line(6), tenths, 99, 0, 1);
        }
        Doors x = Check.quarterOf("w2;rff;d0 0 1;d1 0 0;");
        int[][] terms = {{0, 1}, {1, 10}, {1, 5}, {3, 10}, {2, 5}, {1, 2}, {3, 5}, {7, 10}, {4, 5}, {9, 10}, {1, 1}};
        for (int tenths = 0; tenths <= 10; tenths++) {
            odds(x, tenths, 1, terms[tenths][0], terms[tenths][1]);
        }
        CHECK.due("what -1", x.odds(5, 1, -1), BAD);
        CHECK.due("what 2", x.odds(5, 1, 2), BAD);
        for (int far : FAR_OFF) {
            CHECK.due("x " + far, x.odds(far, 1, 0), BAD);
            CHECK.due("v " + far, x.odds(5, far, 0), BAD);
            CHECK.due("what " + far, x.odds(5, 1, far), BAD);
        }
    }

    private static void oddsBy() throws IOException {
        CHECK.says("ODDS by x (0 .. 10), v (0 .. 99): each DOOR is open by x in 10, for itself (whatever it is NOW)");
        Doors x = Check.quarterOf(SIX);
        CHECK.due("x -1", x.odds(-1, 0, 0), BAD);
        CHECK.due("x 11", x.odds(11, 0, 0), BAD);
        CHECK.due("v -1", x.odds(0, -1, 0), BAD);
        CHECK.due("v 100", x.odds(0, 100, 0), BAD);
        odds(x, 0, 0, 1, 1);
        odds(x, 0, 1, 0, 1);
        odds(x, 10, 99, 1, 1);
        odds(x, 5, 99, 1, 64);
        odds(x, 1, 99, 1, 1000000);
        odds(x, 9, 99, 531441, 1000000);
        odds(x, 1, 1, 468559, 1000000);
        for (int d = 0; d < 6; d++) {
            x.opens(d, 0);
        }
        odds(x, 10, 99, 1, 1);
        odds(x, 5, 99, 1, 64);
    }

    private static void orMore() throws IOException {
        CHECK.says("that DUES of all are v or more: a fraction.");
        Doors x = Check.quarterOf(SIX);
        // By halves, of 64 sets: 1, 6, 15, 20, 15, 6, 1 have so many doors, each of which owes 18.
        odds(x, 5, 90, 7, 64);
        odds(x, 5, 91, 1, 64);
        odds(x, 5, 72, 11, 32);
        odds(x, 5, 73, 7, 64);
        odds(x, 5, 18, 63, 64);
        odds(x, 5, 19, 57, 64);
        odds(x, 5, 1, 63, 64);
        odds(x, 5, 0, 1, 1);
        x.fog(1);
        odds(x, 5, 0, 1, 1);
        odds(x, 5, 1, 0, 1);
    }

    // ---- promise 23

    private static void mean(Doors x, int tenths, int upper, int lower) {
        CHECK.due("mean " + tenths + ", upper", x.mean(tenths, 0), upper);
        CHECK.due("mean " + tenths + ", lower", x.mean(tenths, 1), lower);
    }

    private static void meanAsked() throws IOException {
        CHECK.says("`int mean(int x, int what)`: MEAN: upper (what = 0), lower number (1), in least terms. BAD.");
        Doors x = Check.quarterOf("w2;rff;d0 0 1;d1 0 0;");
        int[][] terms = {{0, 1}, {1, 10}, {1, 5}, {3, 10}, {2, 5}, {1, 2}, {3, 5}, {7, 10}, {4, 5}, {9, 10}, {1, 1}};
        for (int tenths = 0; tenths <= 10; tenths++) {
            mean(x, tenths, terms[tenths][0], terms[tenths][1]);
            mean(new Doors(), tenths, 0, 1);
        }
        CHECK.due("x -1", x.mean(-1, 0), BAD);
        CHECK.due("x 11", x.mean(11, 0), BAD);
        CHECK.due("what -1", x.mean(5, -1), BAD);
        CHECK.due("what 2", x.mean(5, 2), BAD);
        for (int far : FAR_OFF) {
            CHECK.due("x " + far, x.mean(far, 0), BAD);
            CHECK.due("what " + far, x.mean(5, far), BAD);
        }
    }

    private static void meanBy() throws IOException {
        CHECK.says("MEAN by x: the mean of DUES of all so: a fraction.");
        Doors x = Check.quarterOf(SIX);
        mean(x, 0, 0, 1);
        mean(x, 1, 54, 5);
        mean(x, 5, 54, 1);
        mean(x, 7, 378, 5);
        mean(x, 10, 108, 1);
        for (int d = 0; d < 6; d++) {
            x.opens(d, 0);
        }
        mean(x, 10, 108, 1);
        x.fog(1);
        mean(x, 10, 0, 1);
    }

    public static void main(String[] args) throws IOException {
        tells();
        sixAtMost();
        forget();
        openAsked();
        setsOfDoors();
        doorsThereAre();
        oddsAsked();
        oddsBy();
        orMore();
        meanAsked();
        meanBy();
        CHECK.end();
    }
}
