/** Promises 2 to 4: type, clear, quarter, and where the FAULT is. */
public final class TextTest {
    private static final Check CHECK = new Check();

    private static void items(String text, int many) {
        Doors x = new Doors();
        CHECK.due("'" + text + "'", Check.tell(x, text), many);
        CHECK.due("'" + text + "' is empty then", x.count(7), 0);
    }

    /** The text with a ^ ahead of the byte where the FAULT is. */
    private static void fault(String marked) {
        int place = marked.indexOf('^');
        String text = marked.substring(0, place) + marked.substring(place + 1);
        Doors x = Check.quarterOf(Check.THREE);
        x.bills();
        x.keep(0);
        x.tells(0, 1);
        Check.typeAll(x, text);
        String was = Check.picture(x);
        CHECK.due("'" + marked + "'", x.quarter(), -10 - place);
        CHECK.same("'" + marked + "' changes nothing", Check.picture(x), was);
        CHECK.due("'" + marked + "' stays", x.clear(), text.length());
        CHECK.due("'" + marked + "' leaves the image", x.back(0), 15);
    }

    private static void type() {
        Doors x = new Doors();
        CHECK.due("type -1", x.type(-1), FacingDoors.BAD);
        CHECK.due("type 256", x.type(256), FacingDoors.BAD);
        CHECK.due("type 0", x.type(0), 1);
        CHECK.due("type 255", x.type(255), 2);
        for (int i = 3; i <= 150; i++) {
            CHECK.due("type the byte " + i, x.type('a'), i);
        }
        CHECK.due("type the byte 151", x.type('a'), FacingDoors.FULL);
        CHECK.due("BAD comes ahead of FULL", x.type(256), FacingDoors.BAD);
        CHECK.due("a full text has", x.count(7), 150);
        CHECK.due("clear", x.clear(), 150);
        CHECK.due("clear again", x.clear(), 0);
        CHECK.due("type after clear", x.type('w'), 1);
    }

    private static void readable() {
        items("", 0);
        items("   ", 0);
        items("w1;", 1);
        items("w 7 ; r f f x x t t f ;", 2);
        items("  w2;rfx;p9;rtf;s7;d0 0 3;d 1 1 0;  ", 7);
        items("p9;", 1);
        items("s1;p1;", 2);
        items("w1;rf;rf;rf;rf;rf;rf;rf;", 8);
        items("w6;rffffff;d0 0 0;d1 0 1;d2 0 2;d3 0 3;d4 0 0;d5 0 1;", 8);
        items("w7;rfffffff;rfffffff;rfffffff;rfffffff;rfffffff;rfffffff;rfffffff;d6 6 3;", 9);
    }

    private static void endsTooEarly() {
        fault("w^");
        fault("w ^");
        fault("w1^");
        fault("w1  ^");
        fault("w2;r^");
        fault("w2;rf^");
        fault("w2;rff^");
        fault("w1;rf;d^");
        fault("w1;rf;d0^");
        fault("w1;rf;d0 0^");
        fault("w1;rf;d0 0 0^");
        fault("p^");
        fault("s3^");
    }

    private static void tokensThatCantStand() {
        fault("^;");
        fault("w1;^;");
        fault("^5;");
        fault("^a1;");
        fault("^f;");
        fault("w1;^x;");
        fault("w^;");
        fault("w^w1;");
        fault("w1^ 2;".replace("^ ", " ^"));
        fault("w1^r;");
        fault("^r f;");
        fault("p1;^r f;");
        fault("p1;^w1;");
        fault("w1;^w1;");
        fault("w1;p1;^p1;");
        fault("w1;s1;p1;^s1;");
        fault("w2;rf^;");
        fault("w2;rff^f;");
        fault("w2;rf^a;");
        fault("w2;r^1;");
        fault("w1;rf;rf;rf;rf;rf;rf;rf;^rf;");
        fault("w1;rf;rf;d0 0 0;^rf;");
        fault("w7;rfffffff;d0 0 0;d1 0 1;d2 0 2;d3 0 3;d4 0 0;d5 0 1;^d6 0 0;");
        fault("w1;rf;d^;");
        fault("w1;rf;d0 ^;");
        fault("w1;rf;d0 0 ^;");
        fault("w1;rf;d0 0 0 ^1;");
        fault("w1;rf;d0 0 0 ^d;");
    }

    private static void numbersBeyond() {
        fault("w^0;");
        fault("w^8;");
        fault("w ^100;");
        fault("w^01;");
        fault("w^00;");
        fault("p^0;");
        fault("p^10;");
        fault("s^0;");
        fault("s^8;");
        fault("s^99;");
        fault("w^11;");
        fault("w1;rf;d^1 0 0;");
        fault("w1;rf;d0 ^1 0;");
        fault("w1;rf;d0 0 ^4;");
        fault("w1;d0 ^0 0;");
        fault("d^0 0 0;");
        fault("w3;rfxt;d1 ^0 0;");
        fault("w3;rfxt;d2 ^0 0;");
        fault("w2;rff;d1 0 2;d1 ^0 2;");
        fault("w2;rff;d0 0 2;d0^ 00 2;".replace("^ ", " ^"));
        fault("w2;rff;d0 0 2;d^123456789012345678901234567890 0 2;");
        fault("w2;rff;d^4294967296 0 2;");
    }

    private static void bytesThatBeginNone() {
        fault("^W1;");
        fault("w1;^!");
        fault("w^-1;");
        fault("w1^,");
        fault("w1;^\t");
        fault("w1;r^F;");
        fault("w^a");
        fault("w^z");
        fault("^z;");
        fault("w^{");
        fault("w^`");
        fault("w1^:");
        fault("w1^/");
        fault("^" + (char) 255);
        fault("w1;^" + (char) 0);
    }

    private static void readAnew() {
        Doors x = Check.quarterOf("w2;rff;d0 0 1;p4;s2;");
        CHECK.due("anew: s may be told again", Check.tell(x, "w4;rffff;d0 0 1;d3 0 3;s3;p4;"), 6);
        x.bills();
        x.moves(0, 1);
        x.opens(0, 0);
        x.leaf(0);
        x.fog(1);
        CHECK.due("a cart there", x.cart(0, 0, 1), 1);
        x.tells(0, 0);
        x.keep(0);
        x.keep(1);
        x.mark(0, 0);
        CHECK.due("read anew", Check.tell(x, "w3;rffx;d1 0 3;"), 3);
        int[] counts = {3, 1, 1, 1, 7, 0, 0, 0};
        int[] nows = {0, 1, 1, 0, 0, 1, 0, 0};
        for (int what = 0; what < 8; what++) {
            CHECK.due("anew: count " + what, x.count(what), counts[what]);
            CHECK.due("anew: now " + what, x.now(what), nows[what]);
        }
        CHECK.due("anew: no cart", x.cell(0, 0), 0);
        CHECK.due("anew: image 0", x.back(0), FacingDoors.STATE);
        CHECK.due("anew: image 1", x.back(1), FacingDoors.STATE);
        CHECK.due("anew: undo", x.undo(), FacingDoors.STATE);
        CHECK.due("anew: the trace stays", x.trace(), 1);
        CHECK.due("an empty text", x.quarter(), 0);
        CHECK.due("an empty text tells no cells", x.count(0) + x.count(1) + x.count(2), 0);
    }

    public static void main(String[] args) {
        type();
        readable();
        endsTooEarly();
        tokensThatCantStand();
        numbersBeyond();
        bytesThatBeginNone();
        readAnew();
        CHECK.end();
    }
}
