import java.math.BigInteger;
import java.util.ArrayList;
import java.util.Arrays;
import java.util.HashSet;
import java.util.List;
import java.util.Set;
import java.util.TreeMap;
import java.util.regex.Matcher;
import java.util.regex.Pattern;

/**
 * The document once more, as plainly and slowly as can be, to hold the class against: every way is tried, every scene
 * is a copy, and it shares no line of thought with the class where there was another one to take.
 */
final class Model {
    private static final int BAD = -1, STATE = -2, FULL = -3, NONE = -9, NO = -1000000;

    private static final class Door implements Cloneable {
        int x, y, facing, owed;
        boolean open = true;

        Door copy() {
            Door d = new Door();
            d.x = x;
            d.y = y;
            d.facing = facing;
            d.owed = owed;
            d.open = open;
            return d;
        }
    }

    private static final class World {
        List<Door> doors = new ArrayList<>();
        Set<String> carts = new HashSet<>();
        boolean leaf = true, fog = false;

        World copy() {
            World w = new World();
            for (Door d : doors) {
                w.doors.add(d.copy());
            }
            w.carts.addAll(carts);
            w.leaf = leaf;
            w.fog = fog;
            return w;
        }
    }

    private static final class Kept {
        World world;
        List<World> past;
    }

    private final StringBuilder text = new StringBuilder();
    private List<String> rows = new ArrayList<>();
    private int wide = 0, price = 1, sight = 7;
    private World world = new World();
    private List<World> past = new ArrayList<>();
    private final TreeMap<Integer, Kept> images = new TreeMap<>();
    private final List<int[]> told = new ArrayList<>();
    private long trace = 0;

    int type(int c) {
        if (c < 0 || c > 255) {
            return BAD;
        }
        if (text.length() == 150) {
            return FULL;
        }
        text.append((char) c);
        return text.length();
    }

    int clear() {
        int had = text.length();
        text.setLength(0);
        return had;
    }

    // ---- reading: all tokens first, then what may stand where

    private static final Pattern TOKEN = Pattern.compile("[a-z]|[0-9]+|;|[^ ]", Pattern.DOTALL);

    private static boolean number(String token, int least, int most) {
        return token.matches("0|[1-9][0-9]?") && Integer.parseInt(token) >= least && Integer.parseInt(token) <= most;
    }

    int quarter() {
        List<String> tokens = new ArrayList<>();
        List<Integer> places = new ArrayList<>();
        Matcher m = TOKEN.matcher(text);
        while (m.find()) {
            tokens.add(m.group());
            places.add(m.start());
        }
        tokens.add("");
        places.add(text.length());
        List<String> newRows = new ArrayList<>();
        World fresh = new World();
        int newWide = 0, newPrice = 0, newSight = 0, items = 0, i = 0;
        while (!tokens.get(i).isEmpty()) {
            int fault = -1;
            String t = tokens.get(i);
            if (t.equals("w") && items == 0) {
                fault = number(tokens.get(i + 1), 1, 7) ? -1 : i + 1;
                if (fault < 0) {
                    newWide = Integer.parseInt(tokens.get(i + 1));
                    i += 2;
                }
            } else if (t.equals("p") && newPrice == 0) {
                fault = number(tokens.get(i + 1), 1, 9) ? -1 : i + 1;
                if (fault < 0) {
                    newPrice = Integer.parseInt(tokens.get(i + 1));
                    i += 2;
                }
            } else if (t.equals("s") && newSight == 0) {
                fault = number(tokens.get(i + 1), 1, 7) ? -1 : i + 1;
                if (fault < 0) {
                    newSight = Integer.parseInt(tokens.get(i + 1));
                    i += 2;
                }
            } else if (t.equals("r") && newWide > 0 && newRows.size() < 7 && fresh.doors.isEmpty()) {
                StringBuilder row = new StringBuilder();
                i++;
                while (row.length() < newWide && tokens.get(i).matches("[fxt]")) {
                    row.append(tokens.get(i++));
                }
                fault = row.length() == newWide ? -1 : i;
                newRows.add(row.toString());
            } else if (t.equals("d") && fresh.doors.size() < 6) {
                fault = doorAt(tokens, i, newWide, newRows, fresh);
                i += 4;
            } else {
                fault = i;
            }
            if (fault < 0 && !tokens.get(i).equals(";")) {
                fault = i;
            }
            if (fault >= 0) {
                return -10 - places.get(fault);
            }
            i++;
            items++;
        }
        text.setLength(0);
        rows = newRows;
        wide = newWide;
        price = newPrice == 0 ? 1 : newPrice;
        sight = newSight == 0 ? 7 : newSight;
        world = fresh;
        past = new ArrayList<>();
        images.clear();
        told.clear();
        return items;
    }

    private static int doorAt(List<String> tokens, int i, int wide, List<String> rows, World fresh) {
        if (!number(tokens.get(i + 1), 0, wide - 1)) {
            return i + 1;
        }
        if (!number(tokens.get(i + 2), 0, rows.size() - 1)) {
            return i + 2;
        }
        Door d = new Door();
        d.x = Integer.parseInt(tokens.get(i + 1));
        d.y = Integer.parseInt(tokens.get(i + 2));
        for (Door o : fresh.doors) {
            if (o.x == d.x && o.y == d.y) {
                return i + 2;
            }
        }
        if (rows.get(d.y).charAt(d.x) != 'f') {
            return i + 2;
        }
        if (!number(tokens.get(i + 3), 0, 3)) {
            return i + 3;
        }
        d.facing = Integer.parseInt(tokens.get(i + 3));
        fresh.doors.add(d);
        return -1;
    }

    // ---- who sees whom

    private boolean inside(int x, int y) {
        return y >= 0 && y < rows.size() && x >= 0 && x < wide;
    }

    private boolean noDoor(int d) {
        return d < 0 || d >= world.doors.size();
    }

    private static String key(int x, int y) {
        return x + "," + y;
    }

    private boolean vacant(World w, int x, int y) {
        if (!inside(x, y) || rows.get(y).charAt(x) != 'f' || w.carts.contains(key(x, y))) {
            return false;
        }
        for (Door d : w.doors) {
            if (d.x == x && d.y == y) {
                return false;
            }
        }
        return true;
    }

    private static int dx(int way) {
        return way == 1 ? 1 : way == 3 ? -1 : 0;
    }

    private static int dy(int way) {
        return way == 2 ? 1 : way == 0 ? -1 : 0;
    }

    private boolean wayIn(World w, int d) {
        Door door = w.doors.get(d);
        return vacant(w, door.x + dx(door.facing), door.y + dy(door.facing));
    }

    private boolean sees(World w, int a, int b) {
        Door from = w.doors.get(a);
        Door to = w.doors.get(b);
        if (a == b || !from.open || w.fog) {
            return false;
        }
        for (int far = 1; far <= sight; far++) {
            if (from.x + far * dx(from.facing) == to.x && from.y + far * dy(from.facing) == to.y) {
                return nothingBetween(w, from, far);
            }
        }
        return false;
    }

    private boolean nothingBetween(World w, Door from, int far) {
        for (int k = 1; k < far; k++) {
            int x = from.x + k * dx(from.facing);
            int y = from.y + k * dy(from.facing);
            char ground = rows.get(y).charAt(x);
            if (ground == 'x' || ground == 't' && w.leaf || ground == 'f' && !vacant(w, x, y)) {
                return false;
            }
        }
        return true;
    }

    private int due(World w, int a) {
        int sum = 0;
        for (int b = 0; b < w.doors.size(); b++) {
            if (sees(w, a, b)) {
                boolean stares = (w.doors.get(b).facing + 2) % 4 == w.doors.get(a).facing;
                sum += stares ? 2 * price : price;
            }
        }
        return sum;
    }

    private int dues(World w) {
        int sum = 0;
        for (int d = 0; d < w.doors.size(); d++) {
            sum += due(w, d);
        }
        return sum;
    }

    int cell(int x, int y) {
        if (!inside(x, y)) {
            return BAD;
        }
        for (int d = 0; d < world.doors.size(); d++) {
            if (world.doors.get(d).x == x && world.doors.get(d).y == y) {
                return 10 + d;
            }
        }
        return world.carts.contains(key(x, y)) ? 3 : "fxt".indexOf(rows.get(y).charAt(x));
    }

    int door(int d, int what) {
        if (noDoor(d) || what < 0 || what > 8) {
            return BAD;
        }
        Door door = world.doors.get(d);
        int whom = 0, by = 0;
        for (int o = 0; o < world.doors.size(); o++) {
            whom += sees(world, d, o) ? 1 << o : 0;
            by += sees(world, o, d) ? 1 << o : 0;
        }
        return new int[] {door.x, door.y, door.facing, door.open ? 1 : 0, whom, due(world, d),
            wayIn(world, d) ? 1 : 0, by, door.owed}[what];
    }

    // ---- what is done

    private void remember() {
        past.add(world.copy());
        if (past.size() > 10) {
            past.remove(0);
        }
    }

    int hinges(int d, int facing) {
        if (noDoor(d) || facing < 0 || facing > 3) {
            return BAD;
        }
        int was = world.doors.get(d).facing;
        if (was == facing) {
            return STATE;
        }
        remember();
        world.doors.get(d).facing = facing;
        return was;
    }

    int moves(int d, int way) {
        if (noDoor(d) || way < 0 || way > 3) {
            return BAD;
        }
        Door door = world.doors.get(d);
        if (!vacant(world, door.x + dx(way), door.y + dy(way))) {
            return STATE;
        }
        remember();
        door.x += dx(way);
        door.y += dy(way);
        return past.size();
    }

    int opens(int d, int is) {
        if (noDoor(d) || is < 0 || is > 1) {
            return BAD;
        }
        if (world.doors.get(d).open == (is == 1)) {
            return STATE;
        }
        remember();
        world.doors.get(d).open = is == 1;
        return due(world, d);
    }

    int cart(int x, int y, int is) {
        if (!inside(x, y) || is < 0 || is > 1) {
            return BAD;
        }
        if (is == 1 ? !vacant(world, x, y) : !world.carts.contains(key(x, y))) {
            return STATE;
        }
        remember();
        if (is == 1) {
            world.carts.add(key(x, y));
        } else {
            world.carts.remove(key(x, y));
        }
        return world.carts.size();
    }

    int leaf(int is) {
        if (is < 0 || is > 1) {
            return BAD;
        }
        if (world.leaf == (is == 1)) {
            return STATE;
        }
        remember();
        world.leaf = is == 1;
        return dues(world);
    }

    int fog(int is) {
        if (is < 0 || is > 1) {
            return BAD;
        }
        if (world.fog == (is == 1)) {
            return STATE;
        }
        remember();
        world.fog = is == 1;
        return dues(world);
    }

    int bills() {
        remember();
        for (int d = 0; d < world.doors.size(); d++) {
            world.doors.get(d).owed = Math.min(9999, world.doors.get(d).owed + due(world, d));
        }
        return dues(world);
    }

    int undo() {
        if (past.isEmpty()) {
            return STATE;
        }
        world = past.remove(past.size() - 1);
        return past.size();
    }

    int now(int what) {
        if (what < 0 || what > 7) {
            return BAD;
        }
        int open = 0, ways = 0, pairs = 0, owed = 0;
        for (int a = 0; a < world.doors.size(); a++) {
            open += world.doors.get(a).open ? 1 << a : 0;
            ways += wayIn(world, a) ? 1 << a : 0;
            owed += world.doors.get(a).owed;
            for (int b = 0; b < a; b++) {
                pairs += sees(world, a, b) && sees(world, b, a) ? 1 : 0;
            }
        }
        return new int[] {dues(world), open, ways, pairs, world.carts.size(), world.leaf ? 1 : 0, world.fog ? 1 : 0,
            owed}[what];
    }

    // ---- how it should be: every way is tried

    /** Every way of facing by which each has its way in, as worlds, the first one first. */
    private List<World> ways(World from) {
        List<World> all = new ArrayList<>();
        int n = from.doors.size();
        for (int code = 0; code < 1 << 2 * n; code++) {
            for (int d = 0; d < n; d++) {
                from.doors.get(d).facing = code >> 2 * (n - 1 - d) & 3;
            }
            boolean each = true;
            for (int d = 0; d < n && each; d++) {
                each = wayIn(from, d);
            }
            if (each) {
                all.add(from.copy());
            }
        }
        return all;
    }

    int turn(int d) {
        if (d < -2 || d >= world.doors.size()) {
            return BAD;
        }
        int[] best = null;
        for (World w : ways(world.copy())) {
            int[] one = new int[2 + w.doors.size()];
            one[0] = dues(w);
            for (int i = 0; i < w.doors.size(); i++) {
                one[2 + i] = w.doors.get(i).facing;
                one[1] += one[2 + i] == world.doors.get(i).facing ? 0 : 1;
            }
            if (best == null || Arrays.compare(one, best) < 0) {
                best = one;
            }
        }
        return best == null ? NONE : d == -1 ? best[0] : d == -2 ? best[1] : best[2 + d];
    }

    int cartAt() {
        int least = dues(world);
        int at = NONE;
        for (int y = 0; y < rows.size(); y++) {
            for (int x = 0; x < wide; x++) {
                if (vacant(world, x, y)) {
                    World w = world.copy();
                    w.carts.add(key(x, y));
                    if (dues(w) < least) {
                        least = dues(w);
                        at = 10 * y + x;
                    }
                }
            }
        }
        return at;
    }

    int bound(int what) {
        if (what < 0 || what > 1) {
            return BAD;
        }
        World clear = world.copy();
        clear.fog = false;
        for (Door d : clear.doors) {
            d.open = true;
        }
        List<World> all = ways(clear);
        if (all.isEmpty()) {
            return NONE;
        }
        int many = 0, first = NONE;
        for (int a = world.doors.size() - 1; a >= 0; a--) {
            for (int b = world.doors.size() - 1; b > a; b--) {
                boolean is = true;
                for (World w : all) {
                    is = is && (sees(w, a, b) || sees(w, b, a));
                }
                many += is ? 1 : 0;
                first = is ? 10 * a + b : first;
            }
        }
        return what == 0 ? many : first;
    }

    // ---- who stood open

    int tells(int d, int v) {
        if (noDoor(d) || v < 0 || v > 99) {
            return BAD;
        }
        if (told.size() == 6) {
            return FULL;
        }
        told.add(new int[] {d, v});
        return told.size();
    }

    int forget() {
        int had = told.size();
        told.clear();
        return had;
    }

    private World withOpen(int set) {
        World w = world.copy();
        for (int d = 0; d < w.doors.size(); d++) {
            w.doors.get(d).open = (set & 1 << d) != 0;
        }
        return w;
    }

    int open(int what) {
        if (what < 0 || what > 2) {
            return BAD;
        }
        List<Integer> sets = new ArrayList<>();
        for (int set = 0; set < 1 << world.doors.size(); set++) {
            World w = withOpen(set);
            if (told.stream().allMatch(t -> due(w, t[0]) == t[1])) {
                sets.add(set);
            }
        }
        if (what == 0) {
            return sets.size();
        }
        if (sets.isEmpty()) {
            return NONE;
        }
        return what == 1 ? sets.get(0) : sets.stream().reduce(63, (a, b) -> a & b);
    }

    private static int part(BigInteger upper, BigInteger lower, int what) {
        BigInteger common = upper.gcd(lower);
        return (what == 0 ? upper : lower).divide(common).intValueExact();
    }

    private BigInteger chance(int set, int x) {
        BigInteger all = BigInteger.ONE;
        for (int d = 0; d < world.doors.size(); d++) {
            all = all.multiply(BigInteger.valueOf((set & 1 << d) != 0 ? x : 10 - x));
        }
        return all;
    }

    int odds(int x, int v, int what) {
        if (x < 0 || x > 10 || v < 0 || v > 99 || what < 0 || what > 1) {
            return BAD;
        }
        BigInteger upper = BigInteger.ZERO;
        for (int set = 0; set < 1 << world.doors.size(); set++) {
            if (dues(withOpen(set)) >= v) {
                upper = upper.add(chance(set, x));
            }
        }
        return part(upper, BigInteger.TEN.pow(world.doors.size()), what);
    }

    int mean(int x, int what) {
        if (x < 0 || x > 10 || what < 0 || what > 1) {
            return BAD;
        }
        BigInteger upper = BigInteger.ZERO;
        for (int set = 0; set < 1 << world.doors.size(); set++) {
            upper = upper.add(chance(set, x).multiply(BigInteger.valueOf(dues(withOpen(set)))));
        }
        return part(upper, BigInteger.TEN.pow(world.doors.size()), what);
    }

    // ---- kinds, images

    private class Plain {
        int value(int d) {
            trace += 1;
            return due(world, d);
        }
    }

    private class Porch extends Plain {
        @Override int value(int d) {
            trace += 10;
            return super.value(d) + Integer.bitCount(door(d, 7));
        }
    }

    private class Gate extends Plain {
        @Override int value(int d) {
            trace += 100;
            return super.value(d) - world.doors.get(d).facing;
        }
    }

    private class Bay extends Porch {
        @Override int value(int d) {
            trace += 1000;
            return super.value(d) * 2;
        }
    }

    private class School extends Gate {
        @Override int value(int d) {
            trace += 10000;
            return super.value(d) + (world.doors.get(d).open ? 7 : 0);
        }
    }

    private class Hatch extends Plain {
        @Override int value(int d) {
            trace += 100000;
            return super.value(d) + world.doors.get(d).owed;
        }
    }

    int mark(int kind, int d) {
        if (kind < 0 || kind > 5 || noDoor(d)) {
            return NO;
        }
        Plain[] kinds = {new Plain(), new Porch(), new Gate(), new Bay(), new School(), new Hatch()};
        return kinds[kind].value(d);
    }

    private static List<World> copies(List<World> of) {
        List<World> all = new ArrayList<>();
        for (World w : of) {
            all.add(w.copy());
        }
        return all;
    }

    int keep(int image) {
        if (image < 0 || image > 1) {
            return BAD;
        }
        Kept kept = new Kept();
        kept.world = world.copy();
        kept.past = copies(past);
        images.put(image, kept);
        return dues(world);
    }

    int back(int image) {
        if (image < 0 || image > 1) {
            return BAD;
        }
        if (!images.containsKey(image)) {
            return STATE;
        }
        world = images.get(image).world.copy();
        past = copies(images.get(image).past);
        return dues(world);
    }

    int count(int what) {
        return what < 0 || what > 7 ? BAD : new int[] {wide, rows.size(), world.doors.size(), price, sight,
            told.size(), past.size(), text.length()}[what];
    }

    long trace() {
        return trace;
    }
}
