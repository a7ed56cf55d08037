import java.lang.reflect.Constructor;
import java.lang.reflect.Field;
import java.lang.reflect.Member;
import java.lang.reflect.Method;
import java.lang.reflect.Modifier;
import java.util.Arrays;
import java.util.TreeSet;

/** The public face, and promise 1: what a new object is. */
public final class FaceTest {
    private static final String[] FACE = {
        "int type(int)", "int clear()", "int quarter()", "int cell(int,int)", "int door(int,int)",
        "int hinges(int,int)", "int moves(int,int)", "int opens(int,int)", "int cart(int,int,int)", "int leaf(int)",
        "int fog(int)", "int bills()", "int undo()", "int now(int)", "int turn(int)", "int cartAt()",
        "int bound(int)", "int tells(int,int)", "int forget()", "int open(int)", "int odds(int,int,int)",
        "int mean(int,int)", "int mark(int,int)", "int keep(int)", "int back(int)", "int count(int)", "long trace()",
    };

    private static String face(Method m) {
        StringBuilder s = new StringBuilder(m.getReturnType() + " " + m.getName() + "(");
        for (Class<?> p : m.getParameterTypes()) {
            s.append(s.charAt(s.length() - 1) == '(' ? "" : ",").append(p);
        }
        return s.append(")").toString();
    }

    private static boolean isPrivate(Member m) {
        return Modifier.isPrivate(m.getModifiers());
    }

    private static void faceIsAsTold(Check check) throws Exception {
        TreeSet<String> methods = new TreeSet<>();
        for (Method m : FacingDoors.class.getDeclaredMethods()) {
            if (!isPrivate(m)) {
                check.due(m + " is public alone", m.getModifiers(), Modifier.PUBLIC);
                methods.add(face(m));
            }
        }
        check.same("methods", methods.toString(), new TreeSet<>(Arrays.asList(FACE)).toString());
        TreeSet<String> fields = new TreeSet<>();
        for (Field f : FacingDoors.class.getDeclaredFields()) {
            if (!isPrivate(f)) {
                String how = Modifier.toString(f.getModifiers());
                fields.add(how + " " + f.getType() + " " + f.getName() + f.getInt(null));
            }
        }
        String kind = "public static final int ";
        check.same("constants", fields.toString(), new TreeSet<>(Arrays.asList(kind + "BAD-1", kind + "STATE-2",
            kind + "FULL-3", kind + "NONE-9", kind + "NO-1000000")).toString());
        Constructor<?>[] made = FacingDoors.class.getDeclaredConstructors();
        check.due("constructors", made.length, 1);
        check.due("constructor's parameters", made[0].getParameterCount(), 0);
        check.due("constructor is public", made[0].getModifiers(), Modifier.PUBLIC);
        check.due("class is public and final", FacingDoors.class.getModifiers(), Modifier.PUBLIC | Modifier.FINAL);
    }

    private static void newObject(Check check) {
        FacingDoors x = new FacingDoors();
        int[] counts = {0, 0, 0, 1, 7, 0, 0, 0};
        int[] nows = {0, 0, 0, 0, 0, 1, 0, 0};
        for (int what = 0; what < 8; what++) {
            check.due("new: count " + what, x.count(what), counts[what]);
            check.due("new: now " + what, x.now(what), nows[what]);
        }
        check.due("new: cell", x.cell(0, 0), FacingDoors.BAD);
        check.due("new: door", x.door(0, 0), FacingDoors.BAD);
        check.due("new: hinges", x.hinges(0, 0), FacingDoors.BAD);
        check.due("new: moves", x.moves(0, 0), FacingDoors.BAD);
        check.due("new: opens", x.opens(0, 0), FacingDoors.BAD);
        check.due("new: cart", x.cart(0, 0, 1), FacingDoors.BAD);
        check.due("new: tells", x.tells(0, 0), FacingDoors.BAD);
        check.due("new: mark", x.mark(0, 0), FacingDoors.NO);
        check.due("new: turn -1", x.turn(-1), 0);
        check.due("new: turn -2", x.turn(-2), 0);
        check.due("new: turn 0", x.turn(0), FacingDoors.BAD);
        check.due("new: cartAt", x.cartAt(), FacingDoors.NONE);
        check.due("new: bound 0", x.bound(0), 0);
        check.due("new: bound 1", x.bound(1), FacingDoors.NONE);
        check.due("new: open 0", x.open(0), 1);
        check.due("new: open 1", x.open(1), 0);
        check.due("new: open 2", x.open(2), 0);
        check.due("new: odds upper", x.odds(0, 1, 0), 0);
        check.due("new: odds lower", x.odds(0, 1, 1), 1);
        check.due("new: back", x.back(0), FacingDoors.STATE);
        check.due("new: undo", x.undo(), FacingDoors.STATE);
        check.due("new: trace", x.trace(), 0);
        check.due("new: leaf", x.leaf(0), 0);
        check.due("new: fog", x.fog(1), 0);
        check.due("new: undo leaf and fog", x.undo() * 10 + x.undo(), 10);
    }

    public static void main(String[] args) throws Exception {
        Check check = new Check();
        faceIsAsTold(check);
        newObject(check);
        check.end();
    }
}
