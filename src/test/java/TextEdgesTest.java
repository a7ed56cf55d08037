import java.io.IOException;

/** THE TEXT sentence by sentence: the last that is taken, the first that is refused, and where the FAULT is. */
public final class TextEdgesTest {
    private static final Check CHECK = new Check();
    private static final String LETTERS = "abcdefghijklmnopqrstuvwxyz";
    /** All that a text can hold: 16 ITEMS. */
    private static final String MOST = "w7;rfffffff;rfffffff;rfffffff;rfffffff;rfffffff;rfffffff;rfffffff;"
        + "d0 0 0;d1 1 1;d2 2 2;d3 3 3;d4 4 0;d6 6 1;p9;s1;";

    private static Doors reads(String text, int items) {
        Doors x = new Doors();
        CHECK.due("'" + text + "'", Check.tell(x, text), items);
        CHECK.due("'" + text + "' is empty then", x.count(7), 0);
        return x;
    }

    /** The text has a ^ ahead of the TOKEN whose place is the FAULT. */
    private static void fault(String marked) {
        int place = marked.indexOf('^');
        String text = marked.substring(0, place) + marked.substring(place + 1);
        Doors x = new Doors();
        CHECK.due("'" + marked + "'", Check.tell(x, text), -10 - place);
        CHECK.due("'" + marked + "' stays", x.count(7), text.length());
        CHECK.due("'" + marked + "' told nothing", x.count(0) + x.count(1) + x.count(2), 0);
    }

    private static String times(String what, int many) {
        return what.repeat(many);
    }

    // ---- how much of each there is

    private static void wide() throws IOException {
        CHECK.says("WIDE (1 .. 7) CELLS");
        fault("w^0;");
        for (int n = 1; n <= 7; n++) {
            CHECK.due("wide " + n, reads("w" + n + ";r" + times("f", n) + ";", 2).count(0), n);
        }
        fault("w^8;");
        fault("w^9;");
        fault("w^10;");
        fault("w^70;");
    }

    private static void rows() throws IOException {
        CHECK.says("as many ROWS of them as are told (7 at most)");
        for (int n = 0; n <= 7; n++) {
            CHECK.due("rows " + n, reads("w2;" + times("rfx;", n), 1 + n).count(1), n);
        }
        fault("w2;" + times("rfx;", 7) + "^rfx;");
        fault("w2;" + times("rfx;", 7) + "p1;^rfx;");
    }

    private static void doors() throws IOException {
        CHECK.says("DOORS 0 .. (6 of them at most)");
        StringBuilder told = new StringBuilder("w7;rfffffff;");
        for (int n = 0; n <= 6; n++) {
            CHECK.due("doors " + n, reads(told.toString(), 2 + n).count(2), n);
            told.append("d" + n + " 0 0;");
        }
        fault("w7;rfffffff;d0 0 0;d1 0 0;d2 0 0;d3 0 0;d4 0 0;d5 0 0;^d6 0 0;");
        fault("w7;rfffffff;d0 0 0;d1 0 0;d2 0 0;d3 0 0;d4 0 0;d5 0 0;p1;^d");
    }

    private static void onFreeCells() throws IOException {
        CHECK.says("each on a free CELL where no other one is");
        fault("w3;rfxt;d1 ^0 0;");
        fault("w3;rfxt;d2 ^0 0;");
        fault("w3;rfxt;d0 0 1;d0 ^0 2;");
        reads("w2;rff;rff;d0 0 0;d1 0 0;d0 1 0;d1 1 0;", 7);
    }

    private static void facing() throws IOException {
        CHECK.says("FACING 0 up (y less 1), 1 right (x and 1), 2 down, 3 left");
        for (int f = 0; f <= 3; f++) {
            CHECK.due("facing " + f, reads("w1;rf;d0 0 " + f + ";", 3).door(0, 2), f);
        }
        fault("w1;rf;d0 0 ^4;");
        fault("w1;rf;d0 0 ^9;");
        fault("w1;rf;d0 0 ^10;");
        fault("w1;rf;d0 0 ^-1;");
    }

    private static void price() throws IOException {
        CHECK.says("PRICE (1 .. 9; 1 at first)");
        CHECK.due("new", new Doors().count(3), 1);
        fault("p^0;");
        for (int n = 1; n <= 9; n++) {
            CHECK.due("price " + n, reads("p" + n + ";", 1).count(3), n);
        }
        fault("p^10;");
        Doors x = reads("p9;", 1);
        CHECK.due("not told when read anew", Check.tell(x, "w1;") * 10 + x.count(3), 11);
    }

    private static void sight() throws IOException {
        CHECK.says("SIGHT (1 .. 7 CELLS; 7 at first)");
        CHECK.due("new", new Doors().count(4), 7);
        fault("s^0;");
        for (int n = 1; n <= 7; n++) {
            CHECK.due("sight " + n, reads("s" + n + ";", 1).count(4), n);
        }
        fault("s^8;");
        fault("s^10;");
        Doors x = reads("s1;", 1);
        CHECK.due("not told when read anew", Check.tell(x, "w1;") * 10 + x.count(4), 17);
    }

    private static void bytes() throws IOException {
        CHECK.says("They are a text (150 bytes at most), read byte by byte");
        reads("w1" + times(" ", 147) + ";", 1);
        fault("w1;" + times(" ", 146) + "^!");
        fault("w1" + times(" ", 148) + "^");
        Doors x = new Doors();
        Check.typeAll(x, "w1" + times(" ", 148));
        CHECK.due("the byte 151", x.type(';'), FacingDoors.FULL);
        CHECK.due("it did not come", x.quarter(), -160);
    }

    /** What is typed comes one byte after another, whatever is asked and done between. */
    private static void byteByByte() throws IOException {
        CHECK.says("a text (150 bytes at most), read byte by byte");
        String text = "w2;rff;d0 0 1;d1 0 3;";
        Doors x = Check.quarterOf("w1;rf;d0 0 0;");
        for (int i = 0; i < text.length(); i++) {
            CHECK.due("byte " + i, x.type(text.charAt(i)), i + 1);
            x.hinges(0, i + 1 & 3);
            x.keep(0);
            x.undo();
            x.back(0);
            x.type(256);
            CHECK.due("what was told before stays", x.count(0) * 10 + x.count(2), 11);
        }
        CHECK.due("all of it", x.quarter(), 4);
        CHECK.due("what it tells", x.now(0), 4);
    }

    // ---- what is between and what ends

    private static void blanks() throws IOException {
        CHECK.says("blanks (32) between TOKENS");
        Doors x = reads("   w  2 ; r f  x;d  0   0 1  ;p 3;s 4 ;   ", 5);
        CHECK.due("a wall", x.cell(1, 0), 1);
        reads("w2;rfx;d0 0 1;p3;s4;", 5);
        fault("w2;rff;d^00 1;");
        fault("w2;rff;d0 ^01;");
        fault("w2;rff;d^10 1;");
        fault("w 1 ^1;");
        for (char c : new char[] {0, 9, 10, 13, 31, 33, 160, 255}) {
            fault("w1;^" + c + "rf;");
            fault("w^" + c + "1;");
        }
    }

    private static void ends() throws IOException {
        CHECK.says("ITEMS, each letters and what is told, ended by ;");
        fault("w1^rf;");
        fault("w2;rff^rff;");
        fault("w1;rf;d0 0 0^p1;");
        fault("p1^s1;");
        fault("s1^p1;");
        fault("w1;^;");
        fault("^;w1;");
        fault("w1;rf;^;");
    }

    private static void wideIsFirst() throws IOException {
        CHECK.says("w N (WIDE; the first of all)");
        reads("w1;p1;s1;", 3);
        fault("p1;^w1;");
        fault("s1;^w1;");
        fault("s1;p1;^w1;");
    }

    private static void cellsOfARow() throws IOException {
        CHECK.says("r and WIDE CELLS, each a letter f (free), x (a wall), t (a tree)");
        for (int n = 1; n <= 7; n++) {
            fault("w" + n + ";r" + times("x", n - 1) + "^;");
            reads("w" + n + ";r" + times("x", n) + ";", 2);
            fault("w" + n + ";r" + times("x", n) + "^x;");
        }
        Doors x = reads("w3;rfxt;", 2);
        CHECK.due("f, x, t", x.cell(0, 0) * 100 + x.cell(1, 0) * 10 + x.cell(2, 0), 12);
        for (char c : LETTERS.toCharArray()) {
            if ("fxt".indexOf(c) < 0) {
                fault("w1;r^" + c + ";");
                fault("w2;rf^" + c + ";");
            }
        }
        fault("w1;r^0;");
        fault("w1;r^X;");
    }

    private static void rowsAheadOfDoors() throws IOException {
        CHECK.says("(the next ROW, behind w, ahead of d)");
        fault("^rf;");
        fault("p1;s1;^rf;");
        fault("w1;rf;d0 0 0;^rf;");
        fault("w1;rf;d0 0 0;p1;^rf;");
        Doors x = reads("w1;p2;rf;s3;rx;d0 0 2;", 6);
        CHECK.due("the next row", x.cell(0, 0) * 10 + x.cell(0, 1), 101);
    }

    private static void whatItemsTell() throws IOException {
        CHECK.says("d X Y F (a door) ; p N (price) ; s N (sight)");
        Doors x = reads("w3;rfff;rfff;d2 1 3;p4;s5;", 6);
        CHECK.due("X, Y, F", x.door(0, 0) * 100 + x.door(0, 1) * 10 + x.door(0, 2), 213);
        CHECK.due("price and sight", x.count(3) * 10 + x.count(4), 45);
        String[] doors = {"^;", "0^;", "0 0^;", "0 0 0 ^0;", "0 0 0^d;", "^x;", "0^f;", "0 0^w;", "^d;"};
        for (String door : doors) {
            fault("w1;rf;d" + door);
        }
        for (String letter : new String[] {"p", "s", "w"}) {
            fault(letter + "^;");
            fault(letter + "1 ^1;");
            fault(letter + "^" + letter + ";");
            fault(letter + "1^" + letter + ";");
        }
    }

    private static void onceEach() throws IOException {
        CHECK.says("w, p, s once each at most");
        reads("", 0);
        reads("w1;", 1);
        reads("w1;rf;d0 0 0;", 3);
        reads("p1;s1;", 2);
        fault("w1;^w1;");
        fault("w1;rf;^w1;");
        fault("p1;^p1;");
        fault("s7;^s7;");
        fault("w1;p1;rf;s1;d0 0 0;^p1;");
        fault("w1;s1;rf;p1;d0 0 0;^s1;");
    }

    private static void letters() throws IOException {
        CHECK.says("TOKENS are single letters a .. z (each a TOKEN of its own), NUMBERS and ;");
        reads("w3;rfff;", 2);
        reads("w3;r f ff;", 2);
        for (char c : new char[] {'a' - 1, 'z' + 1, 'A', 'Z', 'W', 'F', '0' - 1, '9' + 1, ';' + 1}) {
            fault("^" + c + "1;");
            fault("w1;r^" + c + ";");
            fault("w^" + c + ";");
            fault("w1^" + c);
        }
    }

    // ---- the FAULTS, one after another

    private static void noItem() throws IOException {
        CHECK.says("a letter that begins no ITEM");
        for (char c : LETTERS.toCharArray()) {
            if ("wrdps".indexOf(c) < 0) {
                fault("^" + c + ";");
                fault("w1;^" + c + "1;");
            }
        }
        fault("^1;");
    }

    private static void eighthRowSeventhDoor() throws IOException {
        CHECK.says("an eighth ROW");
        fault("w1;" + times("rf;", 7) + "^r");
        fault("w1;" + times("rf;", 7) + "  ^rx;");
        CHECK.says("a seventh door");
        fault("w1;" + times("rf;", 7) + "d0 0 0;d0 1 0;d0 2 0;d0 3 0;d0 4 0;d0 5 0; ^d0 6 0;");
        fault("w1;" + times("rf;", 7) + "d0 0 0;d0 1 0;d0 2 0;d0 3 0;d0 4 0;d0 5 0;^d9 9 9;");
    }

    private static void againOrTooLate() throws IOException {
        CHECK.says("w behind another ITEM");
        fault("p1; ^w1;");
        fault("s1;^w8;");
        CHECK.says("r ahead of w or behind a d");
        fault(" ^r;");
        fault("s1;^rf;");
        fault("w1;rf;rf;d0 0 0; ^rf;");
        CHECK.says("w, p, s again");
        fault("w1;^w8;");
        fault("p1;^p0;");
        fault("s1;^s8;");
    }

    private static void cellsTooManyOrFew() throws IOException {
        CHECK.says("a CELL too many");
        fault("w1;rf^f;");
        fault("w7;rfffffff ^f;");
        CHECK.says("a ; where one lacks");
        fault("w1;r^;");
        fault("w7;rffffff ^;");
    }

    private static void noFreeCell() throws IOException {
        CHECK.says("a Y (behind its X) at which no free CELL is, or a door");
        fault("w2;rff;rxt;d0 ^1 0;");
        fault("w2;rff;rxt;d1 ^1 0;");
        fault("w2;rff;rxt;d1 ^2 0;");
        fault("w2;rff;rxt;d1 ^99 0;");
        fault("w2;rff;rxt;d1 0 0;d1 ^0 1;");
        fault("w2;d1 ^0 0;");
        // The wall is told of at Y, though what stands behind it is wrong, too.
        fault("w2;rff;rxt;d0 ^1 9;");
        fault("w2;rff;rxt;d0 ^;");
        reads("w2;rff;rxt;d1 0 0;d0 0 1;", 5);
    }

    private static void beyond() throws IOException {
        CHECK.says("a NUMBER beyond what it may be, too");
        for (int n = 1; n <= 7; n++) {
            String street = "w" + n + ";r" + times("f", n) + ";r" + times("f", n) + ";";
            reads(street + "d" + (n - 1) + " 1 0;", 4);
            fault(street + "d^" + n + " 0 0;");
            fault(street + "d0 ^2 0;");
        }
        fault("d^0 0 0;");
        fault("p3;d^0 0 0;");
        fault("w1;rf;d^99 0 0;");
        fault("w^99;");
    }

    private static void bytesThatBeginNone() throws IOException {
        CHECK.says("of a byte that begins none");
        for (int c = 0; c < 256; c++) {
            Doors x = new Doors();
            Check.typeAll(x, "w1;");
            x.type(c);
            x.type(' ');
            int want = c == ' ' ? 1 : "rdps".indexOf(c) >= 0 ? -15 : -13;
            CHECK.due("the byte " + c + " where an ITEM begins", x.quarter(), want);
        }
        for (int c = 0; c < 256; c++) {
            Doors x = new Doors();
            x.type('w');
            x.type(c);
            int want = c == ' ' || c >= '1' && c <= '7' ? -12 : -11;
            CHECK.due("the byte " + c + " where a NUMBER begins", x.quarter(), want);
        }
    }

    private static void numbers() throws IOException {
        CHECK.says("a NUMBER above 99 or with a 0 ahead of others, that TOKEN's");
        for (String n : new String[] {"100", "101", "999", "00", "01", "07", "010", "0000000001", "4294967297",
            "18446744073709551617", "1" + times("0", 100)}) {
            fault("w ^" + n + ";");
            fault("p^" + n + ";");
            fault("w3;rfff;d^" + n + " 0 0;");
            fault("w3;rfff;d0 ^" + n + " 0;");
            fault("w3;rfff;d0 0 ^" + n + ";");
            fault("w1; ^" + n);
        }
        reads("w3;rfff;d0 0 0;", 3);
    }

    private static void endsTooEarly() throws IOException {
        CHECK.says("the text's length, if it ends too early");
        String whole = "w2;rft;rxf;d0 0 1;p2;d1 1 0;s3;";
        int items = 0;
        for (int n = 0; n <= whole.length(); n++) {
            String part = whole.substring(0, n);
            if (part.isEmpty() || part.endsWith(";")) {
                reads(part, items);
                reads(part + "   ", items++);
            } else {
                fault(part + "^");
                fault(part + "   ^");
            }
        }
        CHECK.due("all of it", items, 8);
    }

    private static void theFirst() throws IOException {
        CHECK.says("FAULT: the place of the first byte of the first TOKEN that can't stand there");
        fault("w^8;!");
        fault("w1;r^a;p0;");
        fault("w1;^!w1;");
        fault("w^100;w100;");
        fault("   ^8");
        fault("w1;rf;d0 ^1 7;s8;");
        fault("p ^10;p");
    }

    // ---- promises 2 to 4

    private static void type() throws IOException {
        CHECK.says("`int type(int c)`: A byte (0 .. 255) comes to THE TEXT: how many it has. BAD; FULL.");
        Doors x = new Doors();
        for (int c : new int[] {-1, 256, Integer.MIN_VALUE, Integer.MAX_VALUE, -256}) {
            CHECK.due("type " + c, x.type(c) * 1000 + x.count(7), -1000);
        }
        CHECK.due("type 0", x.type(0), 1);
        CHECK.due("type 255", x.type(255), 2);
        for (int n = 3; n <= 150; n++) {
            CHECK.due("type the byte " + n, x.type(' '), n);
        }
        for (int again = 0; again < 3; again++) {
            CHECK.due("type into a full text", x.type(' '), FacingDoors.FULL);
        }
        CHECK.due("type 256 into a full text", x.type(256), FacingDoors.BAD);
        CHECK.due("type -1 into a full text", x.type(-1), FacingDoors.BAD);
        CHECK.due("bytes", x.count(7), 150);
        CHECK.due("the bytes are what they were", x.quarter(), -10);
        CHECK.due("still full", x.type(' '), FacingDoors.FULL);
    }

    private static void clear() throws IOException {
        CHECK.says("`int clear()`: THE TEXT is empty: how many bytes it had.");
        Doors x = new Doors();
        CHECK.due("nothing", x.clear(), 0);
        x.type('w');
        CHECK.due("one", x.clear() * 10 + x.count(7), 10);
        CHECK.due("again", x.clear(), 0);
        Check.typeAll(x, times("a", 150));
        CHECK.due("full", x.clear() * 10 + x.count(7), 1500);
        CHECK.due("it takes bytes again", x.type('w'), 1);
        CHECK.due("none of the old ones", x.quarter(), -11);
        CHECK.due("what a FAULT left", x.clear(), 1);
    }

    private static void quarter() throws IOException {
        CHECK.says("`int quarter()`: THE TEXT tells all, and is empty then: how many ITEMS.");
        reads("", 0);
        reads(times(" ", 150), 0);
        Doors x = reads(MOST, 16);
        int[] counts = {7, 7, 6, 9, 1, 0, 0, 0};
        for (int what = 0; what < 8; what++) {
            CHECK.due("count " + what, x.count(what), counts[what]);
        }
        CHECK.due("read once more", x.quarter(), 0);
        CHECK.due("then nothing is there", x.count(0) + x.count(1) + x.count(2), 0);
        CHECK.due("price and sight are as at first", x.count(3) * 10 + x.count(4), 17);
        CHECK.says("-10 less FAULT: nothing changes.");
        Check.typeAll(x, MOST + "^");
        CHECK.due("a FAULT", x.quarter(), -10 - MOST.length());
        CHECK.due("the same FAULT again", x.quarter(), -10 - MOST.length());
        x.type('w');
        CHECK.due("the text goes on", x.quarter(), -10 - MOST.length());
        CHECK.due("nothing was told", x.count(0), 0);
    }

    public static void main(String[] args) throws IOException {
        wide();
        rows();
        doors();
        onFreeCells();
        facing();
        price();
        sight();
        bytes();
        byteByByte();
        blanks();
        ends();
        wideIsFirst();
        cellsOfARow();
        rowsAheadOfDoors();
        whatItemsTell();
        onceEach();
        letters();
        noItem();
        eighthRowSeventhDoor();
        againOrTooLate();
        cellsTooManyOrFew();
        noFreeCell();
        beyond();
        bytesThatBeginNone();
        numbers();
        endsTooEarly();
        theFirst();
        type();
        clear();
        quarter();
        CHECK.end();
    }
}
