/**
 * Doors that face one another in an old quarter of cells, and what they owe for what they see.
 *
 * The words in capitals in the comments are those of the document.
 */
public final class FacingDoors {
    public static final int BAD = -1, STATE = -2, FULL = -3, NONE = -9;
    public static final int NO = -1000000;

    private static final int SIDE = 7;
    private static final int MOST_CELLS = 49;
    private static final int MOST_DOORS = 6;
    private static final int MOST_PRICE = 9;
    private static final int MOST_BYTES = 150;
    private static final int MOST_UNDONE = 10;
    private static final int MOST_TOLD = 6;
    private static final int MOST_OWED = 9999;
    private static final int MOST_DUE_TOLD = 99;
    private static final int IMAGES = 2;
    private static final int WAYS = 4;
    private static final int TENTHS = 10;

    private static final int FREE = 0, WALL = 1, TREE = 2, CART = 3, FIRST_DOOR = 10;
    private static final int NOBODY = -1;
    private static final int FAULT_BASE = -10;

    private static final int[] STEP_X = {0, 1, 0, -1};
    private static final int[] STEP_Y = {-1, 0, 1, 0};

    private final Text text = new Text();
    private final Plan plan = new Plan();
    private final Plan draft = new Plan();
    private final Reader reader = new Reader(text, draft);
    private final Scene scene = new Scene();
    private final History history = new History();
    private final Image[] images = new Image[IMAGES];
    private final Sights sights = new Sights(plan, scene);
    private final TurnSearch search = new TurnSearch(plan, scene, sights);
    private final Told told = new Told();
    private final int[] dues = new int[MOST_DOORS];
    private final int[] relief = new int[MOST_CELLS];
    private long trace = 0L;

    public FacingDoors() {
        for (int i = 0; i < images.length; i++) {
            images[i] = new Image();
        }
    }

    // ---- the quarter

    public int type(int c) {
        if (c < 0 || c > 255) {
            return BAD;
        }
        if (text.length >= MOST_BYTES) {
            return FULL;
        }
        text.append(c);
        return text.length;
    }

    public int clear() {
        int had = text.length;
        text.length = 0;
        return had;
    }

    public int quarter() {
        int items = reader.read();
        if (items < 0) {
            return items;
        }
        text.length = 0;
        plan.copyFrom(draft);
        scene.begin(plan);
        history.size = 0;
        told.size = 0;
        for (int i = 0; i < images.length; i++) {
            images[i].kept = false;
        }
        return items;
    }

    public int cell(int x, int y) {
        if (!plan.hasCell(x, y)) {
            return BAD;
        }
        int d = scene.doorOn(x, y, plan.doors);
        if (d != NOBODY) {
            return FIRST_DOOR + d;
        }
        return scene.hasCart(x, y) ? CART : plan.groundAt(x, y);
    }

    public int door(int d, int what) {
        if (!plan.hasDoor(d)) {
            return BAD;
        }
        switch (what) {
            case 0: return scene.x[d];
            case 1: return scene.y[d];
            case 2: return scene.facing[d];
            case 3: return flag(scene.isOpen(d));
            case 4: return bitOf(sights.seesWhom(d));
            case 5: return sights.dueOf(d);
            case 6: return flag(sights.hasWayIn(d, scene.facing[d]));
            case 7: return sights.seenBy(d);
            case 8: return scene.owed[d];
            default: return BAD;
        }
    }

    // ---- what is done

    public int hinges(int d, int facing) {
        if (!plan.hasDoor(d) || !isWay(facing)) {
            return BAD;
        }
        int was = scene.facing[d];
        if (was == facing) {
            return STATE;
        }
        history.push(scene);
        scene.facing[d] = facing;
        return was;
    }

    public int moves(int d, int way) {
        if (!plan.hasDoor(d) || !isWay(way)) {
            return BAD;
        }
        int x = scene.x[d] + STEP_X[way];
        int y = scene.y[d] + STEP_Y[way];
        if (!sights.isVacant(x, y)) {
            return STATE;
        }
        history.push(scene);
        scene.x[d] = x;
        scene.y[d] = y;
        return history.size;
    }

    public int opens(int d, int is) {
        if (!plan.hasDoor(d) || !isFlag(is)) {
            return BAD;
        }
        if (flag(scene.isOpen(d)) == is) {
            return STATE;
        }
        history.push(scene);
        scene.openBits ^= bitOf(d);
        return sights.dueOf(d);
    }

    public int cart(int x, int y, int is) {
        if (!plan.hasCell(x, y) || !isFlag(is)) {
            return BAD;
        }
        boolean can = is == 1 ? sights.isVacant(x, y) : scene.hasCart(x, y);
        if (!can) {
            return STATE;
        }
        history.push(scene);
        scene.carts ^= 1L << placeOf(x, y);
        return Long.bitCount(scene.carts);
    }

    public int leaf(int is) {
        if (!isFlag(is)) {
            return BAD;
        }
        if (flag(scene.inLeaf) == is) {
            return STATE;
        }
        history.push(scene);
        scene.inLeaf = is == 1;
        return sights.dueOfAll();
    }

    public int fog(int is) {
        if (!isFlag(is)) {
            return BAD;
        }
        if (flag(scene.foggy) == is) {
            return STATE;
        }
        history.push(scene);
        scene.foggy = is == 1;
        return sights.dueOfAll();
    }

    public int bills() {
        history.push(scene);
        int sum = 0;
        for (int d = 0; d < plan.doors; d++) {
            int due = sights.dueOf(d);
            scene.owed[d] = Math.min(MOST_OWED, scene.owed[d] + due);
            sum += due;
        }
        return sum;
    }

    public int undo() {
        if (history.size <= 0) {
            return STATE;
        }
        history.pop(scene);
        return history.size;
    }

    public int now(int what) {
        switch (what) {
            case 0: return sights.dueOfAll();
            case 1: return scene.openBits;
            case 2: return sights.whoHasWayIn();
            case 3: return sights.pairs();
            case 4: return Long.bitCount(scene.carts);
            case 5: return flag(scene.inLeaf);
            case 6: return flag(scene.foggy);
            case 7: return scene.owedByAll(plan.doors);
            default: return BAD;
        }
    }

    // ---- how it should be

    public int turn(int d) {
        if (d != -1 && d != -2 && !plan.hasDoor(d)) {
            return BAD;
        }
        if (!search.run()) {
            return NONE;
        }
        if (d == -1) {
            return search.leastDue;
        }
        return d == -2 ? search.fewestTurned : search.best[d];
    }

    public int cartAt() {
        for (int i = 0; i < relief.length; i++) {
            relief[i] = 0;
        }
        for (int d = 0; d < plan.doors; d++) {
            addRelief(d);
        }
        int at = NONE;
        int most = 0;
        for (int y = 0; y < plan.rows; y++) {
            for (int x = 0; x < plan.wide; x++) {
                int here = relief[placeOf(x, y)];
                if (here > most) {
                    most = here;
                    at = 10 * y + x;
                }
            }
        }
        return at;
    }

    public int bound(int what) {
        if (!isFlag(what)) {
            return BAD;
        }
        if (!sights.eachCanHaveWayIn()) {
            return NONE;
        }
        int many = 0;
        int first = NONE;
        for (int a = 0; a < plan.doors; a++) {
            for (int b = a + 1; b < plan.doors; b++) {
                if (sights.mustSee(a, b) || sights.mustSee(b, a)) {
                    many++;
                    first = first == NONE ? 10 * a + b : first;
                }
            }
        }
        return what == 0 ? many : first;
    }

    // ---- who stood open

    public int tells(int d, int v) {
        if (!plan.hasDoor(d) || !isDueTold(v)) {
            return BAD;
        }
        if (told.size >= MOST_TOLD) {
            return FULL;
        }
        told.add(d, v);
        return told.size;
    }

    public int forget() {
        int had = told.size;
        told.size = 0;
        return had;
    }

    public int open(int what) {
        if (what < 0 || what > 2) {
            return BAD;
        }
        lookUpDues();
        int all = bitOf(plan.doors) - 1;
        int many = 0;
        int least = NONE;
        int common = all;
        for (int set = 0; set <= all; set++) {
            if (told.agreesWith(set, dues)) {
                many++;
                least = least == NONE ? set : least;
                common &= set;
            }
        }
        if (what == 0) {
            return many;
        }
        if (many == 0) {
            return NONE;
        }
        return what == 1 ? least : common;
    }

    public int odds(int x, int v, int what) {
        if (!isTenths(x) || !isDueTold(v) || !isFlag(what)) {
            return BAD;
        }
        lookUpDues();
        int upper = 0;
        int lower = 1;
        for (int d = 0; d < plan.doors; d++) {
            lower *= TENTHS;
        }
        int sets = bitOf(plan.doors);
        for (int set = 0; set < sets; set++) {
            if (dueOfSet(set) >= v) {
                upper += weightOfSet(set, x);
            }
        }
        return partInLeastTerms(upper, lower, what);
    }

    public int mean(int x, int what) {
        if (!isTenths(x) || !isFlag(what)) {
            return BAD;
        }
        lookUpDues();
        int upper = x * dueOfSet(bitOf(plan.doors) - 1);
        return partInLeastTerms(upper, TENTHS, what);
    }

    // ---- kinds, images

    public int mark(int kind, int d) {
        if (!plan.hasDoor(d)) {
            return NO;
        }
        switch (kind) {
            case 0: return doorMark(d);
            case 1: return porchMark(d);
            case 2: return gateMark(d);
            case 3: return bayMark(d);
            case 4: return schoolMark(d);
            case 5: return hatchMark(d);
            default: return NO;
        }
    }

    public int keep(int image) {
        if (!isImage(image)) {
            return BAD;
        }
        images[image].take(scene, history);
        return sights.dueOfAll();
    }

    public int back(int image) {
        if (!isImage(image)) {
            return BAD;
        }
        if (!images[image].kept) {
            return STATE;
        }
        images[image].give(scene, history);
        return sights.dueOfAll();
    }

    public int count(int what) {
        switch (what) {
            case 0: return plan.wide;
            case 1: return plan.rows;
            case 2: return plan.doors;
            case 3: return plan.price;
            case 4: return plan.sight;
            case 5: return told.size;
            case 6: return history.size;
            case 7: return text.length;
            default: return BAD;
        }
    }

    public long trace() {
        return trace;
    }

    // ---- what a mark is, each kind on top of the one above it

    private int doorMark(int d) {
        trace += 1L;
        return sights.dueOf(d);
    }

    private int porchMark(int d) {
        trace += 10L;
        return doorMark(d) + Integer.bitCount(sights.seenBy(d));
    }

    private int gateMark(int d) {
        trace += 100L;
        return doorMark(d) - scene.facing[d];
    }

    private int bayMark(int d) {
        trace += 1000L;
        return porchMark(d) * 2;
    }

    private int schoolMark(int d) {
        trace += 10000L;
        return gateMark(d) + (scene.isOpen(d) ? 7 : 0);
    }

    private int hatchMark(int d) {
        trace += 100000L;
        return doorMark(d) + scene.owed[d];
    }

    // ---- what a cart would relieve, and what sets of open doors owe

    /**
     * A cart on a cell between a door and the one that it sees takes the whole due of that door away, since nobody
     * stands between the two; elsewhere it changes nothing. A bare tree lets one see, but no cart can be parked there.
     */
    private void addRelief(int d) {
        int seen = sights.seesWhom(d);
        if (seen == NOBODY) {
            return;
        }
        int due = sights.dueOf(d);
        int way = scene.facing[d];
        int x = scene.x[d];
        int y = scene.y[d];
        for (int step = 1; step < SIDE; step++) {
            x += STEP_X[way];
            y += STEP_Y[way];
            if (!plan.hasCell(x, y) || scene.x[seen] == x && scene.y[seen] == y) {
                return;
            }
            if (plan.groundAt(x, y) == FREE) {
                relief[placeOf(x, y)] += due;
            }
        }
    }

    private void lookUpDues() {
        for (int d = 0; d < plan.doors; d++) {
            dues[d] = sights.dueIfOpen(d);
        }
    }

    private int dueOfSet(int set) {
        int sum = 0;
        for (int d = 0; d < plan.doors; d++) {
            if (hasBit(set, d)) {
                sum += dues[d];
            }
        }
        return sum;
    }

    private int weightOfSet(int set, int x) {
        int weight = 1;
        for (int d = 0; d < plan.doors; d++) {
            weight *= hasBit(set, d) ? x : TENTHS - x;
        }
        return weight;
    }

    // ---- small questions

    private static boolean isWay(int n) {
        return n >= 0 && n < WAYS;
    }

    private static boolean isFlag(int n) {
        return n == 0 || n == 1;
    }

    private static boolean isTenths(int n) {
        return n >= 0 && n <= TENTHS;
    }

    private static boolean isDueTold(int n) {
        return n >= 0 && n <= MOST_DUE_TOLD;
    }

    private static boolean isImage(int n) {
        return n >= 0 && n < IMAGES;
    }

    private static int flag(boolean is) {
        return is ? 1 : 0;
    }

    private static boolean hasBit(int set, int d) {
        return (set >> d & 1) != 0;
    }

    private static int bitOf(int d) {
        return d == NOBODY ? 0 : 1 << d;
    }

    private static int placeOf(int x, int y) {
        return y * SIDE + x;
    }

    private static int wayBack(int facing) {
        return facing + 2 & 3;
    }

    private static int partInLeastTerms(int upper, int lower, int what) {
        int common = commonDivisor(upper, lower);
        int part = what == 0 ? upper : lower;
        return common == 0 ? part : part / common;
    }

    private static int commonDivisor(int a, int b) {
        int greater = a;
        int lesser = b;
        // Each second step halves the number at least: an int needs fewer than 64.
        for (int i = 0; i < 64 && lesser != 0; i++) {
            int rest = greater % lesser;
            greater = lesser;
            lesser = rest;
        }
        return greater;
    }

    /** THE TEXT, as far as it has been typed. */
    private static final class Text {
        private final int[] bytes = new int[MOST_BYTES];
        private int length = 0;

        private void append(int c) {
            if (length < bytes.length) {
                bytes[length] = c;
                length++;
            }
        }

        private int byteAt(int i) {
            return i >= 0 && i < length ? bytes[i] : -1;
        }
    }

    /** What THE TEXT told; nothing that is done changes it. */
    private static final class Plan {
        private int wide = 0;
        private int rows = 0;
        private int doors = 0;
        private int price = 1;
        private int sight = SIDE;
        private final int[] ground = new int[MOST_CELLS];
        private final int[] doorX = new int[MOST_DOORS];
        private final int[] doorY = new int[MOST_DOORS];
        private final int[] doorFacing = new int[MOST_DOORS];

        private void empty() {
            wide = 0;
            rows = 0;
            doors = 0;
            price = 1;
            sight = SIDE;
        }

        private void copyFrom(Plan other) {
            wide = other.wide;
            rows = other.rows;
            doors = other.doors;
            price = other.price;
            sight = other.sight;
            System.arraycopy(other.ground, 0, ground, 0, MOST_CELLS);
            System.arraycopy(other.doorX, 0, doorX, 0, MOST_DOORS);
            System.arraycopy(other.doorY, 0, doorY, 0, MOST_DOORS);
            System.arraycopy(other.doorFacing, 0, doorFacing, 0, MOST_DOORS);
        }

        private boolean hasCell(int x, int y) {
            return x >= 0 && x < wide && y >= 0 && y < rows;
        }

        private boolean hasDoor(int d) {
            return d >= 0 && d < doors;
        }

        private int groundAt(int x, int y) {
            return hasCell(x, y) ? ground[placeOf(x, y)] : WALL;
        }

        private boolean isFreeForDoor(int x, int y) {
            if (!hasCell(x, y) || groundAt(x, y) != FREE) {
                return false;
            }
            for (int d = 0; d < doors; d++) {
                if (doorX[d] == x && doorY[d] == y) {
                    return false;
                }
            }
            return true;
        }
    }

    /** Reads THE TEXT into a draft of a plan; the token at hand is always the first that has not been taken yet. */
    private static final class Reader {
        private static final int END = 0, LETTER = 1, NUMBER = 2, STOP = 3, WRONG = 4;
        private static final int NO_GROUND = -1;

        private final Text text;
        private final Plan plan;
        private int next = 0;
        private int start = 0;
        private int token = END;
        private int value = 0;
        private int items = 0;
        private boolean priceTold = false;
        private boolean sightTold = false;

        private Reader(Text text, Plan plan) {
            this.text = text;
            this.plan = plan;
        }

        /** How many ITEMS, or -10 less FAULT: what can't stand there is left at hand, so its start is the FAULT. */
        private int read() {
            plan.empty();
            next = 0;
            items = 0;
            priceTold = false;
            sightTold = false;
            advance();
            for (int i = 0; i <= MOST_BYTES && token != END; i++) {
                if (!takeItem()) {
                    return FAULT_BASE - start;
                }
                items++;
            }
            return items;
        }

        private void advance() {
            while (next < text.length && text.byteAt(next) == ' ') {
                next++;
            }
            start = next;
            if (next >= text.length) {
                token = END;
                return;
            }
            int c = text.byteAt(next);
            if (isDigit(c)) {
                advanceOverNumber();
                return;
            }
            next++;
            value = c;
            if (c >= 'a' && c <= 'z') {
                token = LETTER;
            } else {
                token = c == ';' ? STOP : WRONG;
            }
        }

        private void advanceOverNumber() {
            value = 0;
            while (next < text.length && isDigit(text.byteAt(next))) {
                // Any number above 99 is wrong alike; it is held down so that long ones can't wrap around.
                value = Math.min(100, value * 10 + text.byteAt(next) - '0');
                next++;
            }
            boolean zeroAhead = text.byteAt(start) == '0' && next - start > 1;
            token = zeroAhead || value > 99 ? WRONG : NUMBER;
        }

        private static boolean isDigit(int c) {
            return c >= '0' && c <= '9';
        }

        private boolean takeItem() {
            if (token != LETTER) {
                return false;
            }
            switch (value) {
                case 'w': return takeWide();
                case 'r': return takeRow();
                case 'd': return takeDoor();
                case 'p': return takePrice();
                case 's': return takeSight();
                default: return false;
            }
        }

        private boolean takeWide() {
            if (items != 0 || !nextIsNumber(1, SIDE)) {
                return false;
            }
            plan.wide = value;
            return takeEnd();
        }

        private boolean takeRow() {
            if (plan.wide == 0 || plan.rows >= SIDE || plan.doors > 0) {
                return false;
            }
            for (int x = 0; x < plan.wide; x++) {
                int ground = nextGround();
                if (ground == NO_GROUND) {
                    return false;
                }
                plan.ground[placeOf(x, plan.rows)] = ground;
            }
            plan.rows++;
            return takeEnd();
        }

        private int nextGround() {
            advance();
            if (token != LETTER) {
                return NO_GROUND;
            }
            switch (value) {
                case 'f': return FREE;
                case 'x': return WALL;
                case 't': return TREE;
                default: return NO_GROUND;
            }
        }

        private boolean takeDoor() {
            if (plan.doors >= MOST_DOORS || !nextIsNumber(0, plan.wide - 1)) {
                return false;
            }
            int x = value;
            if (!nextIsNumber(0, plan.rows - 1) || !plan.isFreeForDoor(x, value)) {
                return false;
            }
            int y = value;
            if (!nextIsNumber(0, WAYS - 1)) {
                return false;
            }
            plan.doorX[plan.doors] = x;
            plan.doorY[plan.doors] = y;
            plan.doorFacing[plan.doors] = value;
            plan.doors++;
            return takeEnd();
        }

        private boolean takePrice() {
            if (priceTold || !nextIsNumber(1, MOST_PRICE)) {
                return false;
            }
            priceTold = true;
            plan.price = value;
            return takeEnd();
        }

        private boolean takeSight() {
            if (sightTold || !nextIsNumber(1, SIDE)) {
                return false;
            }
            sightTold = true;
            plan.sight = value;
            return takeEnd();
        }

        private boolean nextIsNumber(int least, int most) {
            advance();
            return token == NUMBER && value >= least && value <= most;
        }

        private boolean takeEnd() {
            advance();
            if (token != STOP) {
                return false;
            }
            advance();
            return true;
        }
    }

    /** All that is NOW: what may be done, and UNDONE. */
    private static final class Scene {
        private final int[] x = new int[MOST_DOORS];
        private final int[] y = new int[MOST_DOORS];
        private final int[] facing = new int[MOST_DOORS];
        private final int[] owed = new int[MOST_DOORS];
        private int openBits = 0;
        private long carts = 0L;
        private boolean inLeaf = true;
        private boolean foggy = false;

        private void begin(Plan plan) {
            for (int d = 0; d < MOST_DOORS; d++) {
                x[d] = plan.doorX[d];
                y[d] = plan.doorY[d];
                facing[d] = plan.doorFacing[d];
                owed[d] = 0;
            }
            openBits = bitOf(plan.doors) - 1;
            carts = 0L;
            inLeaf = true;
            foggy = false;
        }

        private void copyFrom(Scene other) {
            System.arraycopy(other.x, 0, x, 0, MOST_DOORS);
            System.arraycopy(other.y, 0, y, 0, MOST_DOORS);
            System.arraycopy(other.facing, 0, facing, 0, MOST_DOORS);
            System.arraycopy(other.owed, 0, owed, 0, MOST_DOORS);
            openBits = other.openBits;
            carts = other.carts;
            inLeaf = other.inLeaf;
            foggy = other.foggy;
        }

        private boolean isOpen(int d) {
            return hasBit(openBits, d);
        }

        private boolean hasCart(int atX, int atY) {
            return (carts >> placeOf(atX, atY) & 1L) != 0L;
        }

        private int doorOn(int atX, int atY, int doors) {
            for (int d = 0; d < doors && d < MOST_DOORS; d++) {
                if (x[d] == atX && y[d] == atY) {
                    return d;
                }
            }
            return NOBODY;
        }

        private int owedByAll(int doors) {
            int sum = 0;
            for (int d = 0; d < doors && d < MOST_DOORS; d++) {
                sum += owed[d];
            }
            return sum;
        }
    }

    /** The scenes ahead of the latest things done, the oldest first. */
    private static final class History {
        private final Scene[] scenes = new Scene[MOST_UNDONE];
        private int size = 0;

        private History() {
            for (int i = 0; i < scenes.length; i++) {
                scenes[i] = new Scene();
            }
        }

        private void push(Scene scene) {
            if (size >= MOST_UNDONE) {
                loseOldest();
            }
            scenes[size].copyFrom(scene);
            size++;
        }

        private void loseOldest() {
            Scene oldest = scenes[0];
            for (int i = 1; i < scenes.length; i++) {
                scenes[i - 1] = scenes[i];
            }
            scenes[scenes.length - 1] = oldest;
            size = MOST_UNDONE - 1;
        }

        private void pop(Scene into) {
            if (size > 0) {
                size--;
                into.copyFrom(scenes[size]);
            }
        }

        private void copyFrom(History other) {
            size = other.size;
            for (int i = 0; i < size; i++) {
                scenes[i].copyFrom(other.scenes[i]);
            }
        }
    }

    /** An IMAGE: what is NOW, and what may be UNDONE, as they were when it was kept. */
    private static final class Image {
        private final Scene scene = new Scene();
        private final History history = new History();
        private boolean kept = false;

        private void take(Scene fromScene, History fromHistory) {
            scene.copyFrom(fromScene);
            history.copyFrom(fromHistory);
            kept = true;
        }

        private void give(Scene toScene, History toHistory) {
            toScene.copyFrom(scene);
            toHistory.copyFrom(history);
        }
    }

    /** Who sees whom and who has a WAY IN, by the plan and the scene that it was made with. */
    private static final class Sights {
        private final Plan plan;
        private final Scene scene;

        private Sights(Plan plan, Scene scene) {
            this.plan = plan;
            this.scene = scene;
        }

        private boolean isVacant(int x, int y) {
            return plan.hasCell(x, y)
                && plan.groundAt(x, y) == FREE
                && !scene.hasCart(x, y)
                && scene.doorOn(x, y, plan.doors) == NOBODY;
        }

        /** The place is one of a CELL there is. */
        private boolean hidesWhatIsBehind(int place) {
            int ground = plan.ground[place];
            return ground == WALL || ground == TREE && scene.inLeaf || (scene.carts >> place & 1L) != 0L;
        }

        /** The door that d would see if it were FACING that way, open and without fog. */
        private int wouldSee(int d, int way) {
            int x = scene.x[d];
            int y = scene.y[d];
            for (int step = 0; step < plan.sight; step++) {
                x += STEP_X[way];
                y += STEP_Y[way];
                if (!plan.hasCell(x, y)) {
                    return NOBODY;
                }
                int other = scene.doorOn(x, y, plan.doors);
                if (other != NOBODY) {
                    return other;
                }
                if (hidesWhatIsBehind(placeOf(x, y))) {
                    return NOBODY;
                }
            }
            return NOBODY;
        }

        private int seesWhom(int d) {
            return scene.foggy || !scene.isOpen(d) ? NOBODY : wouldSee(d, scene.facing[d]);
        }

        private int seenBy(int d) {
            int bits = 0;
            for (int other = 0; other < plan.doors; other++) {
                if (seesWhom(other) == d) {
                    bits |= bitOf(other);
                }
            }
            return bits;
        }

        private int dueIfOpen(int d) {
            int other = scene.foggy ? NOBODY : wouldSee(d, scene.facing[d]);
            if (other == NOBODY) {
                return 0;
            }
            boolean stares = scene.facing[other] == wayBack(scene.facing[d]);
            return stares ? 2 * plan.price : plan.price;
        }

        private int dueOf(int d) {
            return scene.isOpen(d) ? dueIfOpen(d) : 0;
        }

        private int dueOfAll() {
            int sum = 0;
            for (int d = 0; d < plan.doors; d++) {
                sum += dueOf(d);
            }
            return sum;
        }

        private int pairs() {
            int many = 0;
            for (int d = 0; d < plan.doors; d++) {
                int other = seesWhom(d);
                if (other > d && seesWhom(other) == d) {
                    many++;
                }
            }
            return many;
        }

        private boolean hasWayIn(int d, int way) {
            return isVacant(scene.x[d] + STEP_X[way], scene.y[d] + STEP_Y[way]);
        }

        private int whoHasWayIn() {
            int bits = 0;
            for (int d = 0; d < plan.doors; d++) {
                if (hasWayIn(d, scene.facing[d])) {
                    bits |= bitOf(d);
                }
            }
            return bits;
        }

        private boolean eachCanHaveWayIn() {
            for (int d = 0; d < plan.doors; d++) {
                boolean can = false;
                for (int way = 0; way < WAYS; way++) {
                    can = can || hasWayIn(d, way);
                }
                if (!can) {
                    return false;
                }
            }
            return true;
        }

        /**
         * Whether every WAY IN of d looks at the other one. Whom a door sees is settled by its own FACING alone, so two
         * are BOUND just when one of them must see the other.
         */
        private boolean mustSee(int d, int other) {
            for (int way = 0; way < WAYS; way++) {
                if (hasWayIn(d, way) && wouldSee(d, way) != other) {
                    return false;
                }
            }
            return true;
        }
    }

    /** Looks for TURN: door by door in the order of the document, leaving what can't be better than the best so far. */
    private static final class TurnSearch {
        private static final int CHOICES = 24;

        private final Plan plan;
        private final Scene scene;
        private final Sights sights;
        private final int[] seen = new int[CHOICES];
        private final boolean[] allowed = new boolean[CHOICES];
        private final int[] chosen = new int[MOST_DOORS];
        private final int[] best = new int[MOST_DOORS];
        private boolean found = false;
        private int leastDue = 0;
        private int fewestTurned = 0;

        private TurnSearch(Plan plan, Scene scene, Sights sights) {
            this.plan = plan;
            this.scene = scene;
            this.sights = sights;
        }

        private boolean run() {
            for (int d = 0; d < plan.doors; d++) {
                for (int way = 0; way < WAYS; way++) {
                    seen[d * WAYS + way] = sights.wouldSee(d, way);
                    allowed[d * WAYS + way] = sights.hasWayIn(d, way);
                }
            }
            found = false;
            choose(0, 0, 0);
            return found;
        }

        /** The doors ahead of d are chosen: d tells how deep the choice is, six at most. */
        private void choose(int d, int due, int turned) {
            if (!isBetter(due, turned)) {
                return;
            }
            if (d < plan.doors && d < MOST_DOORS) {
                chooseEachWay(d, due, turned);
                return;
            }
            found = true;
            leastDue = due;
            fewestTurned = turned;
            System.arraycopy(chosen, 0, best, 0, MOST_DOORS);
        }

        private void chooseEachWay(int d, int due, int turned) {
            for (int way = 0; way < WAYS; way++) {
                if (allowed[d * WAYS + way]) {
                    chosen[d] = way;
                    choose(d + 1, due + dueThatComes(d), turned + flag(way != scene.facing[d]));
                }
            }
        }

        private boolean isBetter(int due, int turned) {
            return !found || due < leastDue || due == leastDue && turned < fewestTurned;
        }

        /** What is owed on top by the choice for d: it sees, and if one chosen earlier looks back, both stare. */
        private int dueThatComes(int d) {
            int other = seen[d * WAYS + chosen[d]];
            if (other == NOBODY) {
                return 0;
            }
            int due = priceFor(d);
            if (other < d && chosen[other] == wayBack(chosen[d])) {
                due += priceFor(d) + priceFor(other);
            }
            return due;
        }

        private int priceFor(int d) {
            return scene.isOpen(d) && !scene.foggy ? plan.price : 0;
        }
    }

    /** What was TOLD of dues. */
    private static final class Told {
        private final int[] ofDoor = new int[MOST_TOLD];
        private final int[] wasDue = new int[MOST_TOLD];
        private int size = 0;

        private void add(int d, int v) {
            if (size < MOST_TOLD) {
                ofDoor[size] = d;
                wasDue[size] = v;
                size++;
            }
        }

        private boolean agreesWith(int set, int[] dueIfOpen) {
            for (int i = 0; i < size; i++) {
                int due = hasBit(set, ofDoor[i]) ? dueIfOpen[ofDoor[i]] : 0;
                if (due != wasDue[i]) {
                    return false;
                }
            }
            return true;
        }
    }
}
