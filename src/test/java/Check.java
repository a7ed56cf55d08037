/** What the tests share: counting wrong answers, telling a quarter, and a picture of all that can be asked. */
final class Check {
    /** Three doors: 0 sees 1, and 1 and 2 stare at one another; the price is 3, so 3 + 6 + 6 is due. */
    static final String THREE = "w4;rffff;rfxtf;rffff;d0 0 1;d3 0 2;d3 2 0;p3;";
    /** Two doors that stare at one another over a single cell; the price is 2. */
    static final String STREET = "w3;rfff;d0 0 1;d2 0 3;p2;";

    private int asked = 0;
    private int wrong = 0;

    void due(String call, long got, long want) {
        asked++;
        if (got != want) {
            wrong++;
            System.out.println(call + " answered " + got + ", due is " + want);
        }
    }

    void same(String call, String got, String want) {
        asked++;
        if (!got.equals(want)) {
            wrong++;
            System.out.println(call + ":\n  is     " + got + "\n  due is " + want);
        }
    }

    int wrong() {
        return wrong;
    }

    void end() {
        System.out.println(asked + " answers, " + wrong + " of them wrong");
        if (wrong != 0 || asked == 0) {
            System.exit(1);
        }
    }

    static void typeAll(FacingDoors x, String text) {
        for (int i = 0; i < text.length(); i++) {
            x.type(text.charAt(i));
        }
    }

    static int tell(FacingDoors x, String text) {
        x.clear();
        typeAll(x, text);
        return x.quarter();
    }

    static FacingDoors quarterOf(String text) {
        FacingDoors x = new FacingDoors();
        int items = tell(x, text);
        if (items < 0) {
            throw new IllegalStateException("not a quarter: " + text + ": " + items);
        }
        return x;
    }

    /** Every answer that can be had without a change. */
    static String picture(FacingDoors x) {
        StringBuilder all = new StringBuilder();
        for (int what = 0; what < 8; what++) {
            all.append(x.count(what)).append(' ');
        }
        return all.append(scene(x)).append(x.trace()).toString();
    }

    /** Every such answer that tells of what is NOW, but for how many may be undone. */
    static String scene(FacingDoors x) {
        StringBuilder all = new StringBuilder();
        for (int what = 0; what < 8; what++) {
            all.append(x.now(what)).append(' ');
        }
        for (int y = 0; y < x.count(1); y++) {
            for (int at = 0; at < x.count(0); at++) {
                all.append(x.cell(at, y)).append(' ');
            }
        }
        for (int d = 0; d < x.count(2); d++) {
            for (int what = 0; what < 9; what++) {
                all.append(x.door(d, what)).append(' ');
            }
        }
        for (int d = -2; d < x.count(2); d++) {
            all.append(x.turn(d)).append(' ');
        }
        all.append(x.cartAt()).append(' ').append(x.bound(0)).append(' ').append(x.bound(1)).append(' ');
        for (int what = 0; what < 3; what++) {
            all.append(x.open(what)).append(' ');
        }
        all.append(x.odds(3, 5, 0)).append('/').append(x.odds(3, 5, 1)).append(' ');
        all.append(x.mean(7, 0)).append('/').append(x.mean(7, 1)).append(' ');
        return all.toString();
    }
}
