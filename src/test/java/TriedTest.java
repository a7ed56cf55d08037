import java.io.IOException;

/**
 * What the class is asked to find, found by trying: hinges told in every way, a cart parked on every cell, every set of
 * doors opened, each on an object of its own, and what that one owes.
 */
public final class TriedTest {
    private static final Check CHECK = new Check();
    private static final int NONE = FacingDoors.NONE;
    /** Three doors each; A, B and C stand for what they are FACING. */
    private static final String[] QUARTERS = {
        "w3;rfff;rfff;d0 0 A;d2 0 B;d1 1 C;p2;",
        "w5;rfffff;rxftfx;rfffff;d0 0 A;d4 0 B;d2 2 C;",
        "w3;rfff;rxfx;rfff;d0 0 A;d2 0 B;d1 2 C;p3;",
        "w4;rffff;rffff;rffff;rffff;d0 0 A;d0 3 B;d3 3 C;s2;p9;",
        "w5;rfffff;d0 0 A;d4 0 B;d2 0 C;p5;",
        "w3;rftf;rftf;rfff;d0 0 A;d2 0 B;d2 2 C;",
        "w4;rffxf;rxfff;d0 0 A;d3 0 B;d1 1 C;p4;",
    };
    private static final int[][] FACINGS = {{1, 3, 0}, {0, 0, 0}, {2, 0, 3}};
    private static final int SITUATIONS = 7, ALL = 7;

    private static Doors made(String quarter, int[] facing, int situation) {
        Doors x = Check.quarterOf(quarter.replace("A", "" + facing[0]).replace("B", "" + facing[1])
            .replace("C", "" + facing[2]));
        // A cart may be refused: then it is refused whatever the doors are facing.
        switch (situation) {
            case 1: x.leaf(0); break;
            case 2: x.opens(0, 0); break;
            case 3: x.fog(1); break;
            case 4: x.cart(1, 0, 1); break;
            case 5: x.opens(1, 0); x.opens(2, 0); x.leaf(0); break;
            case 6: x.cart(1, 1, 1); x.cart(3, 0, 1); break;
            default: break;
        }
        return x;
    }

    private interface Asked {
        void of(String quarter, int[] facing, int situation, Doors x);
    }

    private static void inAll(Asked asked) {
        for (String quarter : QUARTERS) {
            for (int[] facing : FACINGS) {
                for (int situation = 0; situation < SITUATIONS; situation++) {
                    asked.of(quarter, facing, situation, made(quarter, facing, situation));
                }
            }
        }
    }

    private static int[] facing(int code) {
        return new int[] {code >> 4 & 3, code >> 2 & 3, code & 3};
    }

    private static void turn(String quarter, int[] was, int situation, Doors x) {
        int least = NONE, fewest = NONE;
        int[] best = {NONE, NONE, NONE};
        for (int code = 0; code < 64; code++) {
            Doors y = made(quarter, facing(code), situation);
            int turned = 0;
            for (int d = 0; d < 3; d++) {
                turned += facing(code)[d] == was[d] ? 0 : 1;
            }
            boolean better = least == NONE || y.now(0) < least || y.now(0) == least && turned < fewest;
            if (y.now(2) == ALL && better) {
                least = y.now(0);
                fewest = turned;
                best = facing(code);
            }
        }
        String why = quarter + " in " + situation;
        CHECK.due(why + ": how much", x.turn(-1), least);
        CHECK.due(why + ": how many", x.turn(-2), fewest);
        for (int d = 0; d < 3; d++) {
            CHECK.due(why + ": door " + d, x.turn(d), best[d]);
        }
    }

    private static void cartAt(String quarter, int[] facing, int situation, Doors x) {
        int least = x.now(0), at = NONE;
        for (int n = 0; n < x.count(0) * x.count(1); n++) {
            int atX = n % x.count(0), atY = n / x.count(0);
            Doors y = made(quarter, facing, situation);
            if (y.cart(atX, atY, 1) > 0 && y.now(0) < least) {
                least = y.now(0);
                at = 10 * atY + atX;
            }
        }
        CHECK.due(quarter + " in " + situation, x.cartAt(), at);
    }

    private static boolean sees(Doors x, int a, int b) {
        return (x.door(a, 4) >> b & 1) != 0;
    }

    private static void pairs(String quarter, int[] facing, int situation, Doors x) {
        int pairs = 0;
        for (int a = 0; a < 3; a++) {
            for (int b = a + 1; b < 3; b++) {
                pairs += sees(x, a, b) && sees(x, b, a) ? 1 : 0;
            }
        }
        CHECK.due(quarter + " in " + situation, x.now(3), pairs);
    }

    private static void bound(String quarter, int[] facing, int situation, Doors x) {
        int ways = 0;
        int[] parted = new int[3];
        int[] twos = {1, 2, 12};
        for (int code = 0; code < 64; code++) {
            Doors y = made(quarter, facing(code), situation);
            y.fog(0);
            for (int d = 0; d < 3; d++) {
                y.opens(d, 1);
            }
            if (y.now(2) == ALL) {
                ways++;
                for (int n = 0; n < 3; n++) {
                    int a = twos[n] / 10, b = twos[n] % 10;
                    parted[n] += sees(y, a, b) || sees(y, b, a) ? 0 : 1;
                }
            }
        }
        int many = 0, first = NONE;
        for (int n = 0; n < 3 && ways > 0; n++) {
            many += parted[n] == 0 ? 1 : 0;
            first = parted[n] == 0 && first == NONE ? twos[n] : first;
        }
        CHECK.due(quarter + " in " + situation + ": how many", x.bound(0), ways == 0 ? NONE : many);
        CHECK.due(quarter + " in " + situation + ": the first", x.bound(1), first);
    }

    private static Doors withOpen(String quarter, int[] facing, int situation, int set) {
        Doors y = made(quarter, facing, situation);
        for (int d = 0; d < 3; d++) {
            y.opens(d, set >> d & 1);
        }
        return y;
    }

    /** Whoever stood open, and whoever tells of it: the sets that owe the same are found, and no other ones. */
    private static void open(String quarter, int[] facing, int situation, Doors x) {
        int[][] dues = new int[8][3];
        for (int set = 0; set < 8; set++) {
            for (int d = 0; d < 3; d++) {
                dues[set][d] = withOpen(quarter, facing, situation, set).door(d, 5);
            }
        }
        for (int stood = 0; stood < 8; stood++) {
            for (int tell = 0; tell < 8; tell++) {
                x.forget();
                int many = 0, least = NONE, common = ALL;
                for (int d = 0; d < 3; d++) {
                    if ((tell >> d & 1) != 0) {
                        x.tells(d, dues[stood][d]);
                    }
                }
                for (int set = 7; set >= 0; set--) {
                    boolean is = true;
                    for (int d = 0; d < 3; d++) {
                        is = is && ((tell >> d & 1) == 0 || dues[set][d] == dues[stood][d]);
                    }
                    many += is ? 1 : 0;
                    least = is ? set : least;
                    common &= is ? set : ALL;
                }
                CHECK.due(quarter + " in " + situation + ": how many", x.open(0), many);
                CHECK.due(quarter + " in " + situation + ": the least", x.open(1), least);
                CHECK.due(quarter + " in " + situation + ": in all", x.open(2), common);
            }
        }
    }

    private static int gcd(int a, int b) {
        return b == 0 ? a : gcd(b, a % b);
    }

    private static void fraction(String why, int upper, int lower, int thousandths) {
        CHECK.due(why + ": so much", upper * 1000L, (long) lower * thousandths);
        CHECK.due(why + ": the lower number is above 0", lower > 0 ? 1 : 0, 1);
        CHECK.due(why + ": in least terms", gcd(upper, lower), 1);
    }

    private static int[] duesOfSets(String quarter, int[] facing, int situation) {
        int[] dues = new int[8];
        for (int set = 0; set < 8; set++) {
            dues[set] = withOpen(quarter, facing, situation, set).now(0);
        }
        return dues;
    }

    private static int thousandths(int set, int tenths) {
        int all = 1;
        for (int d = 0; d < 3; d++) {
            all *= (set >> d & 1) != 0 ? tenths : 10 - tenths;
        }
        return all;
    }

    private static void odds(String quarter, int[] facing, int situation, Doors x) {
        int[] dues = duesOfSets(quarter, facing, situation);
        for (int tenths : new int[] {0, 1, 4, 5, 8, 10}) {
            for (int v : new int[] {0, 1, 2, 3, 4, 5, 6, 8, 9, 10, 11, 12, 15, 18, 19, 20, 27, 28, 36, 54, 99}) {
                int sum = 0;
                for (int set = 0; set < 8; set++) {
                    sum += dues[set] >= v ? thousandths(set, tenths) : 0;
                }
                fraction(quarter + " in " + situation, x.odds(tenths, v, 0), x.odds(tenths, v, 1), sum);
            }
        }
    }

    private static void mean(String quarter, int[] facing, int situation, Doors x) {
        int[] dues = duesOfSets(quarter, facing, situation);
        for (int tenths = 0; tenths <= 10; tenths++) {
            int sum = 0;
            for (int set = 0; set < 8; set++) {
                sum += dues[set] * thousandths(set, tenths);
            }
            fraction(quarter + " in " + situation, x.mean(tenths, 0), x.mean(tenths, 1), sum);
        }
    }

    public static void main(String[] args) throws IOException {
        CHECK.says("TURN: of all ways in which all DOORS can be FACING (those on their CELLS, open as NOW) "
            + "by which each DOOR has a WAY IN, that by which DUES of all together are least, then fewest DOORS are TURNED, "
            + "of several the first (FACING of DOOR 0, then 1, ..): how much; how many are TURNED; FACING of a DOOR; "
            + "NONE (there is no such way).");
        inAll(TriedTest::turn);
        CHECK.says("CART AT: the CELL for one more CART by which DUES of all are least, if less than NOW, "
            + "of several the lowest y, then x: 10 times y and x; NONE.");
        inAll(TriedTest::cartAt);
        CHECK.says("`int cartAt()`: CART AT; NONE.");
        CHECK.due("without doors", Check.quarterOf("w3;rfff;").cartAt(), NONE);
        CHECK.due("between two", Check.quarterOf("w3;rfff;d0 0 1;d2 0 0;").cartAt(), 1);
        CHECK.says("PAIRS: how many twos of DOORS STARE at one another (each at the other) by SIGHT and all as NOW.");
        inAll(TriedTest::pairs);
        CHECK.says("BOUND: twos of DOORS (10 times the lesser and the other one) such that, however all are FACING "
            + "with a WAY IN for each, one of both SEES the other one, were all open and no fog: how many; the first; NONE.");
        inAll(TriedTest::bound);
        CHECK.says("OPEN: sets of DOORS (bits 0 .. 63) that were open, all else as NOW, "
            + "by which all that was TOLD is so: how many; the least; those that are in all of them (bits); NONE.");
        inAll(TriedTest::open);
        CHECK.says("ODDS by x (0 .. 10), v (0 .. 99): each DOOR is open by x in 10, for itself (whatever it is NOW): "
            + "that DUES of all are v or more: a fraction.");
        inAll(TriedTest::odds);
        CHECK.says("MEAN by x: the mean of DUES of all so: a fraction.");
        inAll(TriedTest::mean);
        CHECK.end();
    }
}
