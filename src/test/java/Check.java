import java.io.IOException;
import java.nio.file.Files;
import java.nio.file.Path;

/** What the tests share: counting wrong answers, telling a quarter, and a picture of all that can be asked. */
final class Check {
    private static final Path DOCUMENT = Path.of("../shared/DOC.md");
    private static final String NO_DOCUMENT = "none";
    /** Three doors: 0 sees 1, and 1 and 2 stare at one another; the price is 3, so 3 + 6 + 6 is due. */
    static final String THREE = "w4;rffff;rfxtf;rffff;d0 0 1;d3 0 2;d3 2 0;p3;";
    /** Two doors that stare at one another over a single cell; the price is 2. */
    static final String STREET = "w3;rfff;d0 0 1;d2 0 3;p2;";

    private String document = "";
    private String sentence = "";
    private int sentences = 0;
    private int askedOfIt = 1;
    private int asked = 0;
    private int wrong = 0;

    /**
     * What is asked from here on is due by that sentence, which must stand in the document word for word; where the
     * document can't be had, the class is tested all the same.
     */
    void says(String words) throws IOException {
        if (document.isEmpty()) {
            boolean there = Files.isReadable(DOCUMENT);
            document = there ? Files.readString(DOCUMENT).replaceAll("\\s+", " ") : NO_DOCUMENT;
            System.out.print(there ? "" : DOCUMENT + " is not there: no sentence is looked up\n");
        }
        due("answers asked of '" + sentence + "'", Math.min(1, askedOfIt), 1);
        sentence = words;
        sentences++;
        boolean has = document.equals(NO_DOCUMENT) || document.contains(words);
        due("the document has this sentence", has ? 1 : 0, 1);
        askedOfIt = 0;
    }

    private void tell(String what) {
        System.out.println((sentence.isEmpty() ? "" : "[" + sentence + "] ") + what);
    }

    void due(String call, long got, long want) {
        asked++;
        askedOfIt++;
        if (got != want) {
            wrong++;
            tell(call + " answered " + got + ", due is " + want);
        }
    }

    void same(String call, String got, String want) {
        asked++;
        askedOfIt++;
        if (!got.equals(want)) {
            wrong++;
            tell(call + ":\n  is     " + got + "\n  due is " + want);
        }
    }

    int wrong() {
        return wrong;
    }

    void end() {
        due("answers asked of '" + sentence + "'", Math.min(1, askedOfIt), 1);
        String told = sentences == 0 ? "" : ", of " + sentences + " sentences";
        System.out.println(asked + " answers" + told + ", " + wrong + " of them wrong");
        if (wrong != 0 || asked == 0) {
            System.exit(1);
        }
    }

    static void typeAll(Doors x, String text) {
        for (int i = 0; i < text.length(); i++) {
            x.type(text.charAt(i));
        }
    }

    static int tell(Doors x, String text) {
        x.clear();
        typeAll(x, text);
        return x.quarter();
    }

    static Doors quarterOf(String text) {
        Doors x = new Doors();
        int items = tell(x, text);
        if (items < 0) {
            throw new IllegalStateException("not a quarter: " + text + ": " + items);
        }
        return x;
    }

    /** Every answer that can be had without a change. */
    static String picture(Doors x) {
        StringBuilder all = new StringBuilder();
        for (int what = 0; what < 8; what++) {
            all.append(x.count(what)).append(' ');
        }
        return all.append(scene(x)).append(x.trace()).toString();
    }

    /** Every such answer that tells of what is NOW, but for how many may be undone. */
    static String scene(Doors x) {
        StringBuilder all = new StringBuilder();
        for (int what = 0; what < 8; what++) {
            all.append(x.now(what)).append(' ');
        }
        for (int y = 0; y < x.count(1); y++) {
            for (int at = 0; at < x.count(0); at++) {
                all.append(x.cell(at, y)).append(' ');
            }
        }
        for (int d = 0; d < x.count(2); d++) {
            for (int what = 0; what < 9; what++) {
                all.append(x.door(d, what)).append(' ');
            }
        }
        for (int d = -2; d < x.count(2); d++) {
            all.append(x.turn(d)).append(' ');
        }
        all.append(x.cartAt()).append(' ').append(x.bound(0)).append(' ').append(x.bound(1)).append(' ');
        for (int what = 0; what < 3; what++) {
            all.append(x.open(what)).append(' ');
        }
        all.append(x.odds(3, 5, 0)).append('/').append(x.odds(3, 5, 1)).append(' ');
        all.append(x.mean(7, 0)).append('/').append(x.mean(7, 1)).append(' ');
        return all.toString();
    }
}
