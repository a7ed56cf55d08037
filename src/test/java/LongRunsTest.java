import java.io.IOException;

/** Runs that take all of an object's 512 calls: sums that grow, and what is lost on the way. */
public final class LongRunsTest {
    private static final Check CHECK = new Check();
    private static final int STATE = FacingDoors.STATE;
    private static final String STREET = "w2;rff;d0 0 1;d1 0 3;p9;";

    private static void mostBilled() throws IOException {
        CHECK.says("An object is used for at most 512 calls after it has been made; what later calls answer is free.");
        Doors x = Check.quarterOf(STREET);
        int bills = Doors.MOST_CALLS - 3 - x.calls();
        for (int n = 1; n <= bills; n++) {
            CHECK.due("bill " + n, x.bills(), 36);
        }
        CHECK.due("owed by one", x.door(0, 8), 18L * bills);
        CHECK.due("owed by all", x.now(7), 36L * bills);
        CHECK.due("to be undone", x.count(6), 10);
        CHECK.due("all calls were used", x.calls(), Doors.MOST_CALLS);
    }

    private static void longestTrace() throws IOException {
        CHECK.says("HATCH up, and what it has OWED (100000)");
        Doors x = Check.quarterOf(STREET);
        int marks = Doors.MOST_CALLS - 1 - x.calls();
        for (int n = 0; n < marks; n++) {
            x.mark(5, n % 2);
        }
        CHECK.due("the trace", x.trace(), 100001L * marks);
    }

    private static void billedAndUndone() throws IOException {
        CHECK.says("(10 are known, older ones are lost)");
        Doors x = Check.quarterOf(STREET);
        int owed = 0;
        while (x.calls() < Doors.MOST_CALLS - 25) {
            for (int n = 0; n < 11; n++) {
                x.bills();
            }
            for (int left = 9; left >= 0; left--) {
                CHECK.due("undo", x.undo(), left);
            }
            CHECK.due("no more", x.undo(), STATE);
            owed += 36;
            CHECK.due("one of eleven stays", x.now(7), owed);
        }
    }

    private static void textsReadAnew() throws IOException {
        CHECK.says("THE TEXT tells all, and is empty then");
        Doors x = new Doors();
        int read = 0;
        while (x.calls() < Doors.MOST_CALLS - 40) {
            CHECK.due("read", Check.tell(x, STREET), 5);
            CHECK.due("due", x.bills() + x.now(7), 72);
            CHECK.due("not kept since", x.keep(0) + x.back(1), 34);
            read++;
        }
        CHECK.due("read so often", read > 10 ? 1 : 0, 1);
    }

    private static void fullTexts() throws IOException {
        CHECK.says("a text (150 bytes at most)");
        Doors x = new Doors();
        for (int round = 0; round < 3; round++) {
            for (int n = 1; n <= 150; n++) {
                x.type(n == 1 ? 'w' : ' ');
            }
            CHECK.due("full", x.type('1'), FacingDoors.FULL);
            CHECK.due("ends too early", x.quarter(), -160);
            CHECK.due("clear", x.clear(), 150);
        }
    }

    private static void movedToAndFro() throws IOException {
        CHECK.says("MOVED: a DOOR is on the next CELL in a direction");
        Doors x = Check.quarterOf("w7;rfffffff;d0 0 0;");
        int at = 0, step = 1;
        for (int n = 1; x.calls() < Doors.MOST_CALLS - 3; n++) {
            boolean can = at + step >= 0 && at + step < 7;
            CHECK.due("move " + n, x.moves(0, step > 0 ? 1 : 3), can ? Math.min(10, n - (n - 1) / 7) : STATE);
            if (can) {
                at += step;
            } else {
                step = -step;
            }
        }
        CHECK.due("there it is", x.cell(at, 0), 10);
    }

    private static void imagesToAndFro() throws IOException {
        CHECK.says("All of that becomes as an IMAGE has it: DUES of all.");
        Doors x = Check.quarterOf(STREET);
        x.keep(0);
        x.bills();
        x.opens(0, 0);
        x.keep(1);
        while (x.calls() < Doors.MOST_CALLS - 8) {
            CHECK.due("back 0", x.back(0), 36);
            CHECK.due("owed there", x.now(7) * 100 + x.count(6), 0);
            CHECK.due("back 1", x.back(1), 18);
            CHECK.due("owed there", x.now(7) * 100 + x.count(6), 3602);
            x.fog(1);
            x.undo();
        }
    }

    private static void toldAndForgotten() throws IOException {
        CHECK.says("TOLD (6 at most)");
        Doors x = Check.quarterOf(STREET);
        while (x.calls() < Doors.MOST_CALLS - 10) {
            for (int n = 1; n <= 6; n++) {
                CHECK.due("tells", x.tells(n % 2, 18), n);
            }
            CHECK.due("a seventh", x.tells(0, 0), FacingDoors.FULL);
            CHECK.due("both were open", x.open(1), 3);
            CHECK.due("forget", x.forget(), 6);
        }
    }

    public static void main(String[] args) throws IOException {
        mostBilled();
        longestTrace();
        billedAndUndone();
        textsReadAnew();
        fullTexts();
        movedToAndFro();
        imagesToAndFro();
        toldAndForgotten();
        CHECK.end();
    }
}
