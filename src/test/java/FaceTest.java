import java.io.IOException;
import java.lang.reflect.Constructor;
import java.lang.reflect.Field;
import java.lang.reflect.Member;
import java.lang.reflect.Method;
import java.lang.reflect.Modifier;
import java.nio.file.Files;
import java.nio.file.Path;
import java.util.Arrays;
import java.util.TreeMap;
import java.util.TreeSet;
import java.util.regex.Matcher;
import java.util.regex.Pattern;

/** The public face, and promise 1: what a new object is. */
public final class FaceTest {
    private static final String FACE = "public final class FacingDoors { "
        + "public static final int BAD = -1, STATE = -2, FULL = -3, NONE = -9; public static final int NO = -1000000; "
        + "public FacingDoors(); "
        + "public int type(int c); public int clear(); public int quarter(); "
        + "public int cell(int x, int y); public int door(int d, int what); "
        + "public int hinges(int d, int facing); public int moves(int d, int way); public int opens(int d, int is); "
        + "public int cart(int x, int y, int is); public int leaf(int is); public int fog(int is); "
        + "public int bills(); public int undo(); public int now(int what); "
        + "public int turn(int d); public int cartAt(); public int bound(int what); "
        + "public int tells(int d, int v); public int forget(); public int open(int what); "
        + "public int odds(int x, int v, int what); public int mean(int x, int what); "
        + "public int mark(int kind, int d); public int keep(int image); public int back(int image); "
        + "public int count(int what); public long trace(); }";

    /** The methods of the face without their parameters' names, which a compiled class does not tell. */
    private static TreeSet<String> methodsTold() {
        TreeSet<String> all = new TreeSet<>();
        Matcher m = Pattern.compile("public (\\w+ \\w+)\\(([^)]*)\\);").matcher(FACE);
        while (m.find()) {
            all.add(m.group(1) + "(" + m.group(2).replaceAll("(int) \\w+", "$1").replace(", ", ",") + ")");
        }
        return all;
    }

    private static String face(Method m) {
        StringBuilder s = new StringBuilder(m.getReturnType() + " " + m.getName() + "(");
        for (Class<?> p : m.getParameterTypes()) {
            s.append(s.charAt(s.length() - 1) == '(' ? "" : ",").append(p);
        }
        return s.append(")").toString();
    }

    private static boolean isPrivate(Member m) {
        return Modifier.isPrivate(m.getModifiers());
    }

    private static void faceIsAsTold(Check check) throws Exception {
        TreeSet<String> methods = new TreeSet<>();
        for (Method m : FacingDoors.class.getDeclaredMethods()) {
            if (!isPrivate(m)) {
                check.due(m + " is public alone", m.getModifiers(), Modifier.PUBLIC);
                methods.add(face(m));
            }
        }
        check.says(FACE);
        check.due("how many methods", methodsTold().size(), 27);
        check.same("methods", methods.toString(), methodsTold().toString());
        TreeSet<String> fields = new TreeSet<>();
        for (Field f : FacingDoors.class.getDeclaredFields()) {
            if (!isPrivate(f)) {
                String how = Modifier.toString(f.getModifiers());
                fields.add(how + " " + f.getType() + " " + f.getName() + f.getInt(null));
            }
        }
        String kind = "public static final int ";
        check.same("constants", fields.toString(), new TreeSet<>(Arrays.asList(kind + "BAD-1", kind + "STATE-2",
            kind + "FULL-3", kind + "NONE-9", kind + "NO-1000000")).toString());
        Constructor<?>[] made = FacingDoors.class.getDeclaredConstructors();
        check.due("constructors", made.length, 1);
        check.due("constructor's parameters", made[0].getParameterCount(), 0);
        check.due("constructor is public", made[0].getModifiers(), Modifier.PUBLIC);
        check.due("class is public and final", FacingDoors.class.getModifiers(), Modifier.PUBLIC | Modifier.FINAL);
    }

    /** The calls stand in the class as in the interface, each part under its own words. */
    private static void parts(Check check) throws IOException {
        String source = Files.readString(Path.of("src/main/java/FacingDoors.java"));
        String calls = "";
        TreeMap<String, String> parts = new TreeMap<>();
        for (String line : source.split("\n")) {
            Matcher part = Pattern.compile(" {4}// (---- .*)").matcher(line);
            Matcher call = Pattern.compile(" {4}public \\w+ (\\w+)\\(.*").matcher(line);
            if (part.matches()) {
                calls = part.group(1);
            } else if (call.matches()) {
                parts.merge(calls, "`" + call.group(1) + "`", (a, b) -> a + ", " + b);
            }
        }
        check.due("parts", parts.size(), 5);
        check.says("Ahead of the calls `type`, `clear`, `quarter`, `cell`, `door` the interface says: "
            + "---- the quarter.");
        check.same("the quarter", parts.get("---- the quarter"), "`type`, `clear`, `quarter`, `cell`, `door`");
        check.says("Ahead of the calls `hinges`, `moves`, `opens`, `cart`, `leaf`, `fog`, `bills`, `undo`, `now` "
            + "the interface says: ---- what is done.");
        check.same("what is done", parts.get("---- what is done"),
            "`hinges`, `moves`, `opens`, `cart`, `leaf`, `fog`, `bills`, `undo`, `now`");
        check.says("Ahead of the calls `turn`, `cartAt`, `bound` the interface says: ---- how it should be.");
        check.same("how it should be", parts.get("---- how it should be"), "`turn`, `cartAt`, `bound`");
        check.says("Ahead of the calls `tells`, `forget`, `open`, `odds`, `mean` the interface says: "
            + "---- who stood open.");
        check.same("who stood open", parts.get("---- who stood open"), "`tells`, `forget`, `open`, `odds`, `mean`");
        check.says("Ahead of the calls `mark`, `keep`, `back`, `count`, `trace` the interface says: "
            + "---- kinds, images.");
        check.same("kinds, images", parts.get("---- kinds, images"), "`mark`, `keep`, `back`, `count`, `trace`");
    }

    private static void newObject(Check check) throws IOException {
        check.says("## Promise 1: A new object `FacingDoors()`: As told; no CELLS.");
        FacingDoors x = new FacingDoors();
        int[] counts = {0, 0, 0, 1, 7, 0, 0, 0};
        int[] nows = {0, 0, 0, 0, 0, 1, 0, 0};
        for (int what = 0; what < 8; what++) {
            check.due("new: count " + what, x.count(what), counts[what]);
            check.due("new: now " + what, x.now(what), nows[what]);
        }
        check.due("new: cell", x.cell(0, 0), FacingDoors.BAD);
        check.due("new: door", x.door(0, 0), FacingDoors.BAD);
        check.due("new: hinges", x.hinges(0, 0), FacingDoors.BAD);
        check.due("new: moves", x.moves(0, 0), FacingDoors.BAD);
        check.due("new: opens", x.opens(0, 0), FacingDoors.BAD);
        check.due("new: cart", x.cart(0, 0, 1), FacingDoors.BAD);
        check.due("new: tells", x.tells(0, 0), FacingDoors.BAD);
        check.due("new: mark", x.mark(0, 0), FacingDoors.NO);
        check.due("new: turn -1", x.turn(-1), 0);
        check.due("new: turn -2", x.turn(-2), 0);
        check.due("new: turn 0", x.turn(0), FacingDoors.BAD);
        check.due("new: cartAt", x.cartAt(), FacingDoors.NONE);
        check.due("new: bound 0", x.bound(0), 0);
        check.due("new: bound 1", x.bound(1), FacingDoors.NONE);
        check.due("new: open 0", x.open(0), 1);
        check.due("new: open 1", x.open(1), 0);
        check.due("new: open 2", x.open(2), 0);
        check.due("new: odds upper", x.odds(0, 1, 0), 0);
        check.due("new: odds lower", x.odds(0, 1, 1), 1);
        check.due("new: back", x.back(0), FacingDoors.STATE);
        check.due("new: undo", x.undo(), FacingDoors.STATE);
        check.due("new: trace", x.trace(), 0);
        check.due("new: leaf", x.leaf(0), 0);
        check.due("new: fog", x.fog(1), 0);
        check.due("new: undo leaf and fog", x.undo() * 10 + x.undo(), 10);
    }

    public static void main(String[] args) throws Exception {
        Check check = new Check();
        faceIsAsTold(check);
        parts(check);
        newObject(check);
        check.end();
    }
}
