import java.util.Random;

/** All promises: runs of 512 calls drawn by a fixed seed, on the class and on the model, answer for answer. */
public final class ModelTest {
    private static final int RUNS = 3000;
    /** At most so many calls: two texts with what is asked of them; all that is asked at a run's end. */
    private static final int CALLS_OF_TEXTS = 310, CALLS_OF_ALL = 90;

    private final Random random;
    private final Check check;
    private final Doors x = new Doors();
    private final Model m = new Model();
    private final StringBuilder done = new StringBuilder();

    private ModelTest(long seed, Check check) {
        this.random = new Random(seed);
        this.check = check;
    }

    private void due(String call, long got, long want) {
        if (got != want) {
            check.due(done + " then " + call, got, want);
        } else {
            check.due(call, got, want);
        }
        done.append(call).append("=").append(want).append(' ');
    }

    /** Mostly below the bound, now and then just or far beyond. */
    private int number(int bound) {
        int n = random.nextInt(40);
        if (n == 0) {
            return -1;
        }
        if (n == 1) {
            return bound;
        }
        return n == 2 ? random.nextInt() : random.nextInt(Math.max(1, bound));
    }

    private String randomText() {
        int wide = 1 + random.nextInt(7);
        int rows = 1 + random.nextInt(random.nextInt(3) == 0 ? 7 : 4);
        boolean open = random.nextBoolean();
        StringBuilder s = new StringBuilder("w" + wide + ";");
        char[][] ground = new char[rows][wide];
        for (int y = 0; y < rows; y++) {
            for (int at = 0; at < wide; at++) {
                ground[y][at] = random.nextInt(open ? 12 : 4) > 0 ? 'f' : random.nextBoolean() ? 'x' : 't';
            }
            s.append("r").append(ground[y]).append(";");
        }
        boolean anywhere = random.nextInt(5) == 0;
        int doors = random.nextInt(8);
        for (int d = 0; d < doors; d++) {
            int at = random.nextInt(wide), y = random.nextInt(rows);
            if (anywhere || d < 6 && ground[y][at] == 'f') {
                s.append("d" + at + " " + y + " " + random.nextInt(4) + ";");
                ground[y][at] = 'd';
            }
        }
        if (random.nextBoolean()) {
            s.append("p").append(1 + random.nextInt(9)).append(";");
        }
        if (random.nextInt(3) == 0) {
            s.append("s").append(1 + random.nextInt(7)).append(";");
        }
        return s.toString();
    }

    private String spoilt(String text) {
        StringBuilder s = new StringBuilder(text);
        String signs = "wrdpsfxt;; 0123456789  !A" + (char) 0 + (char) 255;
        for (int n = 1 + random.nextInt(2); n > 0 && s.length() > 0; n--) {
            int at = random.nextInt(s.length());
            char c = signs.charAt(random.nextInt(signs.length()));
            switch (random.nextInt(4)) {
                case 0: s.deleteCharAt(at); break;
                case 1: s.insert(at, c); break;
                case 2: s.setCharAt(at, c); break;
                default: s.setLength(at); break;
            }
        }
        return s.toString();
    }

    private void type(String text) {
        for (int i = 0; i < text.length(); i++) {
            check.due("type", x.type(text.charAt(i)), m.type(text.charAt(i)));
        }
        done.append("'").append(text).append("' ");
        due("quarter", x.quarter(), m.quarter());
    }

    private void tellQuarter() {
        String text = randomText();
        due("clear", x.clear(), m.clear());
        if (random.nextInt(3) == 0) {
            type(spoilt(text));
            due("clear", x.clear(), m.clear());
        }
        type(text);
    }

    private void change() {
        int doors = m.count(2), d = number(doors), a = number(4), is = number(2);
        int px = number(m.count(0)), py = number(m.count(1));
        switch (random.nextInt(12)) {
            case 0: case 1: due("hinges " + d + " " + a, x.hinges(d, a), m.hinges(d, a)); break;
            case 2: case 3: due("moves " + d + " " + a, x.moves(d, a), m.moves(d, a)); break;
            case 4: due("opens " + d + " " + is, x.opens(d, is), m.opens(d, is)); break;
            case 5: case 6: due("cart " + px + " " + py + " " + is, x.cart(px, py, is), m.cart(px, py, is)); break;
            case 7: due("leaf " + is, x.leaf(is), m.leaf(is)); break;
            case 8: due("fog " + is, x.fog(is), m.fog(is)); break;
            case 9: due("bills", x.bills(), m.bills()); break;
            default: due("undo", x.undo(), m.undo()); break;
        }
    }

    private void tellAndKeep() {
        int d = number(m.count(2)), v = number(2) * m.count(3) * number(3), kind = number(6), image = number(2);
        switch (random.nextInt(8)) {
            case 0: case 1: due("tells " + d + " " + v, x.tells(d, v), m.tells(d, v)); break;
            case 2: due("forget", x.forget(), m.forget()); break;
            case 3: due("keep " + image, x.keep(image), m.keep(image)); break;
            case 4: due("back " + image, x.back(image), m.back(image)); break;
            default: due("mark " + kind + " " + d, x.mark(kind, d), m.mark(kind, d)); break;
        }
    }

    private void ask() {
        int d = number(m.count(2)), what = number(9), v = random.nextInt(3) == 0 ? number(100) : number(20);
        int tenths = number(11), two = number(2), three = number(3);
        int px = number(m.count(0)), py = number(m.count(1)), turned = d < 0 ? -1 - random.nextInt(3) : d;
        switch (random.nextInt(12)) {
            case 0: due("cell " + px + " " + py, x.cell(px, py), m.cell(px, py)); break;
            case 1: case 2: due("door " + d + " " + what, x.door(d, what), m.door(d, what)); break;
            case 3: due("now " + what, x.now(what), m.now(what)); break;
            case 4: due("count " + what, x.count(what), m.count(what)); break;
            case 5: due("turn " + turned, x.turn(turned), m.turn(turned)); break;
            case 6: due("cartAt", x.cartAt(), m.cartAt()); break;
            case 7: due("bound " + two, x.bound(two), m.bound(two)); break;
            case 8: due("open " + three, x.open(three), m.open(three)); break;
            case 9: due("odds " + tenths + " " + v, x.odds(tenths, v, two), m.odds(tenths, v, two)); break;
            case 10: due("mean " + tenths, x.mean(tenths, two), m.mean(tenths, two)); break;
            default: due("trace", x.trace(), m.trace()); break;
        }
    }

    private void askAll() {
        int doors = m.count(2);
        for (int d = -2; d <= doors; d++) {
            due("turn " + d, x.turn(d), m.turn(d));
        }
        for (int d = 0; d < doors; d++) {
            for (int what = 0; what < 9; what++) {
                due("door " + d + " " + what, x.door(d, what), m.door(d, what));
            }
        }
        for (int what = 0; what < 8; what++) {
            due("now " + what, x.now(what), m.now(what));
            due("count " + what, x.count(what), m.count(what));
        }
        due("cartAt", x.cartAt(), m.cartAt());
        due("bound 0", x.bound(0), m.bound(0));
        due("bound 1", x.bound(1), m.bound(1));
    }

    private void run() {
        tellQuarter();
        while (x.calls() < Doors.MOST_CALLS - CALLS_OF_ALL) {
            int n = random.nextInt(100);
            if (n == 0 && x.calls() < Doors.MOST_CALLS - CALLS_OF_ALL - CALLS_OF_TEXTS) {
                tellQuarter();
            } else if (n < 45) {
                change();
            } else if (n < 65) {
                tellAndKeep();
            } else {
                ask();
            }
        }
        askAll();
        while (x.calls() < Doors.MOST_CALLS) {
            ask();
        }
    }

    public static void main(String[] args) {
        Check check = new Check();
        long from = args.length > 0 ? Long.parseLong(args[0]) : 0L;
        for (long seed = from; seed < from + RUNS && check.wrong() < 20; seed++) {
            new ModelTest(seed, check).run();
        }
        check.end();
    }
}
