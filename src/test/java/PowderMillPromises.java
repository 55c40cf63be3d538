import java.lang.reflect.Constructor;
import java.lang.reflect.Field;
import java.lang.reflect.Method;
import java.lang.reflect.Modifier;
import java.util.Set;
import java.util.TreeSet;

/** Each promise of the document by itself: ordinary inputs, the edges that it names, and wrong inputs. */
public final class PowderMillPromises {
    private static final int IN = 0, OUT = 1, GRIND = 2, CARRY = 3, SHARE = 4, WRITE = 5, QUIT = 6, SKIP = 7, AGAIN = 8;
    private static final int NONE = 1, DEEP = 2, SPARK = 3, SHORT = 4, ZERO = 5, ROW = 6;
    private static final int WALLS = 0, POWDER = 1, REFUGE = 2, TIMES_IN = 3, SPARKS = 4, CAUGHT = 5, NOW = 6;
    private static final int[] WRONG_PLACES = {-1, 8, 9, Integer.MIN_VALUE, Integer.MAX_VALUE};
    private static final int[] WRONG_ACTS = {-1, 9, Integer.MIN_VALUE, Integer.MAX_VALUE};

    private static int wrong = 0;

    public static void main(String[] args) {
        face();
        newObject();
        build();
        raze();
        step();
        clear();
        alter();
        runToItsEnd();
        runQuits();
        runIsSpent();
        runByFault();
        actIn();
        actOut();
        actGrind();
        actCarry();
        actShare();
        actWrite();
        actSkip();
        actAgain();
        refuges();
        begun();
        where();
        house();
        row();
        count();
        System.out.println(wrong == 0 ? "all answers are as due" : wrong + " answers are not as due");
        if (wrong != 0) {
            System.exit(1);
        }
    }

    private static void due(String call, long got, long want) {
        if (got != want) {
            wrong++;
            System.out.println(call + " answered " + got + ", due is " + want);
        }
    }

    private static void dueText(String what, String got, String want) {
        if (!got.equals(want)) {
            wrong++;
            System.out.println(what + ":\n  is  " + got + "\n  due " + want);
        }
    }

    /** THE ORDER becomes these: an ACT and its a by turns. */
    private static void order(PowderMill x, int... actsAndNumbers) {
        x.clear();
        for (int i = 0; i < actsAndNumbers.length; i += 2) {
            due("step", x.step(actsAndNumbers[i], actsAndNumbers[i + 1]), i / 2 + 1);
        }
    }

    private static int runOf(PowderMill x, int... actsAndNumbers) {
        order(x, actsAndNumbers);
        return x.run();
    }

    /** HOUSES 0 .. 3 with the WALLS 10, 20, 30, 40; 1 and 3 are REFUGES. */
    private static PowderMill fourHouses() {
        PowderMill x = new PowderMill();
        for (int k = 0; k < 4; k++) {
            x.build(k, 10 * (k + 1), k % 2 == 1);
        }
        return x;
    }

    private static void dueHouse(String what, PowderMill x, int k, int... wanted) {
        for (int i = 0; i < wanted.length; i++) {
            due(what + ": house(" + k + ", " + i + ")", x.house(k, i), wanted[i]);
        }
    }

    private static String rowAnswer(PowderMill x, int i) {
        try {
            return "" + x.row(i);
        } catch (RuntimeException e) {
            // The machine's own throw tells the index; the class must not leave it to the machine.
            due("row(" + i + ") by the machine's throw", ("" + e.getMessage()).contains("" + i) ? 1 : 0, 0);
            return "throws." + e.getClass().getSimpleName();
        }
    }

    private static void face() {
        due("BAD", PowderMill.BAD, -1);
        due("FULL", PowderMill.FULL, -2);
        due("SPENT", PowderMill.SPENT, -3);
        due("public and final", PowderMill.class.getModifiers() & (Modifier.PUBLIC | Modifier.FINAL), Modifier.PUBLIC | Modifier.FINAL);
        Set<String> seen = new TreeSet<>();
        for (Method m : PowderMill.class.getDeclaredMethods()) {
            if (!Modifier.isPrivate(m.getModifiers()) && !m.isSynthetic()) {
                seen.add(m.toString());
            }
        }
        for (Field f : PowderMill.class.getDeclaredFields()) {
            if (!Modifier.isPrivate(f.getModifiers())) {
                seen.add(f.toString());
            }
        }
        for (Constructor<?> c : PowderMill.class.getDeclaredConstructors()) {
            seen.add(c.toString());
        }
        Set<String> wanted = new TreeSet<>();
        for (String name : new String[] {"BAD", "FULL", "SPENT"}) {
            wanted.add("public static final int PowderMill." + name);
        }
        for (String call : new String[] {"build(int,int,boolean)", "raze(int)", "step(int,int)", "clear()", "alter(int,int,int)", "run()",
                "begun()", "where()", "house(int,int)", "row(int) throws java.lang.ArrayIndexOutOfBoundsException", "count(int)"}) {
            wanted.add("public int PowderMill." + call);
        }
        wanted.add("public PowderMill()");
        dueText("the face", seen.toString(), wanted.toString());
    }

    private static void newObject() {
        PowderMill x = new PowderMill();
        for (int k = 0; k < 8; k++) {
            due("new: house " + k, x.house(k, WALLS), PowderMill.BAD);
            due("new: row " + k, x.row(k), 0);
        }
        for (int what : new int[] {0, 1, 2, 3, 4, 5, 11, 12, 13, 14, 15, 16}) {
            due("new: count " + what, x.count(what), 0);
        }
        due("new: begun", x.begun(), 0);
        due("new: where", x.where(), -1);
        due("new: clear", x.clear(), 0);
        due("new: run", x.run(), 0);
        PowderMill other = new PowderMill();
        x.build(3, 3, true);
        runOf(x, WRITE, 2);
        due("another object's houses", other.count(0), 0);
        due("another object's steps", other.count(1), 0);
        due("another object's ledger", other.row(2), 0);
    }

    private static void build() {
        PowderMill x = new PowderMill();
        for (int k = 0; k < 8; k++) {
            due("build where none stood", x.build(k, k == 0 ? 1 : 100, k % 2 == 0), 0);
            due("houses", x.count(0), k + 1);
            dueHouse("built", x, k, k == 0 ? 1 : 100, 0, k % 2 == 0 ? 1 : 0, 0, 0, 0, 0);
        }
        PowderMill y = fourHouses();
        runOf(y, IN, 1, GRIND, 150, IN, 1, GRIND, 100);
        runOf(y, IN, 1, GRIND, 30);
        dueHouse("used", y, 1, 20, 30, 1, 3, 1, 1, 0);
        for (int k : WRONG_PLACES) {
            due("build(" + k + ")", y.build(k, 5, false), PowderMill.BAD);
        }
        for (int walls : new int[] {0, -1, 101, Integer.MIN_VALUE, Integer.MAX_VALUE}) {
            due("walls " + walls, y.build(1, walls, false), PowderMill.BAD);
            due("walls " + walls, y.build(7, walls, false), PowderMill.BAD);
        }
        due("houses after BAD", y.count(0), 4);
        dueHouse("after BAD", y, 1, 20, 30, 1, 3, 1, 1, 0);
        due("build where one stood", y.build(1, 7, false), 1);
        dueHouse("built anew", y, 1, 7, 0, 0, 0, 0, 0, 0);
        due("houses", y.count(0), 4);
    }

    private static void raze() {
        PowderMill x = fourHouses();
        due("raze one", x.raze(2), 1);
        due("raze none", x.raze(2), 0);
        due("raze none", x.raze(7), 0);
        due("house razed", x.house(2, WALLS), PowderMill.BAD);
        due("houses", x.count(0), 3);
        due("into a razed one", runOf(x, IN, 2), -10 - NONE);
        due("build behind raze", x.build(2, 9, true), 0);
        dueHouse("built behind raze", x, 2, 9, 0, 1, 0, 0, 0, 0);
        for (int k : WRONG_PLACES) {
            due("raze(" + k + ")", x.raze(k), PowderMill.BAD);
        }
        due("houses after BAD", x.count(0), 4);
    }

    private static void step() {
        PowderMill x = new PowderMill();
        for (int act : WRONG_ACTS) {
            due("step(" + act + ")", x.step(act, 0), PowderMill.BAD);
        }
        due("steps after BAD", x.count(1), 0);
        for (int i = 0; i < 30; i++) {
            due("step " + i, x.step(i % 9, i % 2 == 0 ? Integer.MIN_VALUE : Integer.MAX_VALUE), i + 1);
        }
        due("step 30", x.step(OUT, 0), PowderMill.FULL);
        due("a wrong act in a full order", x.step(9, 0), PowderMill.BAD);
        due("steps after FULL", x.count(1), 30);
        for (int i = 0; i < 30; i++) {
            due("act of step " + i, x.alter(i, OUT, 0), i % 9);
        }
        due("all 30 are done", x.run(), 30);
    }

    private static void clear() {
        PowderMill x = fourHouses();
        due("one step", runOf(x, WRITE, 0), 1);
        due("clear", x.clear(), 1);
        due("clear an empty one", x.clear(), 0);
        due("steps", x.count(1), 0);
        due("run of an empty one", x.run(), 0);
        due("houses stay", x.count(0), 4);
        due("ledger stays", x.row(0), -1);
        due("step behind clear", x.step(OUT, 0), 1);
    }

    private static void alter() {
        PowderMill x = fourHouses();
        order(x, IN, 0, GRIND, 7, WRITE, 1);
        due("alter the middle", x.alter(1, GRIND, 9), GRIND);
        due("alter the last", x.alter(2, WRITE, 2), WRITE);
        due("alter the first", x.alter(0, IN, 1), IN);
        due("alter past the last", x.alter(3, OUT, 0), PowderMill.BAD);
        due("alter -1", x.alter(-1, OUT, 0), PowderMill.BAD);
        due("alter far off", x.alter(Integer.MAX_VALUE, OUT, 0), PowderMill.BAD);
        due("alter far off", x.alter(Integer.MIN_VALUE, OUT, 0), PowderMill.BAD);
        for (int act : WRONG_ACTS) {
            due("alter to " + act, x.alter(1, act, 0), PowderMill.BAD);
        }
        due("steps", x.count(1), 3);
        due("run", x.run(), 3);
        due("what was altered counts", x.row(2), 9);
        due("what was altered away does not", x.row(1), 0);
        due("powder", x.house(1, POWDER), 9);
        due("alter the act", x.alter(1, OUT, 0), GRIND);
        due("the act altered", x.alter(1, GRIND, 0), OUT);
        x.clear();
        due("alter what was cleared", x.alter(0, OUT, 0), PowderMill.BAD);
    }

    private static void runToItsEnd() {
        PowderMill x = fourHouses();
        due("run", runOf(x, IN, 0, IN, 2, GRIND, 5), 3);
        due("out of the outer one", x.house(0, NOW), 0);
        due("out of the inner one", x.house(2, NOW), 0);
        due("the same order again", x.run(), 3);
        due("powder of two runs", x.house(2, POWDER), 10);
        due("in the yard at first", runOf(x, WRITE, 3), 1);
        due("in the yard at first", x.row(3), -1);
    }

    private static void runQuits() {
        PowderMill x = fourHouses();
        due("quit", runOf(x, IN, 0, QUIT, 5, GRIND, 5), 2);
        due("begun", x.begun(), 2);
        due("what is behind quit", x.house(0, POWDER), 0);
        due("out of it", x.house(0, NOW), 0);
        due("runs that quit", x.count(5), 1);
        due("quit in the yard", runOf(x, QUIT, 0), 1);
        due("quit passed over", runOf(x, SKIP, 1, QUIT, 0), 1);
        due("runs that quit", x.count(5), 2);
    }

    private static void runIsSpent() {
        PowderMill x = fourHouses();
        // Three STEPS ahead, then 19 that an AGAIN has done four times.
        order(x, OUT, 0, OUT, 0, IN, 0);
        for (int i = 0; i < 18; i++) {
            x.step(GRIND, 0);
        }
        x.step(AGAIN, 3);
        due("79 steps", x.run(), 3 + 4 * 19);
        x.step(SKIP, 0);
        due("80 steps", x.run(), 80);
        due("begun", x.begun(), 80);
        x.alter(22, QUIT, 0);
        due("the 80th quits", x.run(), 80);
        due("runs that quit", x.count(5), 1);
        x.alter(22, WRITE, 8);
        due("the 80th breaks", x.run(), -10 - ROW);
        due("no run was spent yet", x.count(4), 0);
        x.alter(22, SKIP, 3);
        x.step(WRITE, 5);
        x.step(WRITE, 5);
        x.step(WRITE, 5);
        due("the 80th skips to the end", x.run(), 80);
        x.step(WRITE, 5);
        due("the 81st", x.run(), PowderMill.SPENT);
        due("begun", x.begun(), 80);
        due("the 81st is not done", x.row(5), 0);
        due("spent runs", x.count(4), 1);
        due("runs by a fault", x.count(3), 1);
        due("out of it", x.house(0, NOW), 0);
        due("a run behind it", runOf(x, IN, 0, WRITE, 5), 2);
    }

    private static void runByFault() {
        PowderMill x = fourHouses();
        due("NONE", runOf(x, OUT, 0, IN, 4, OUT, 0), -10 - NONE);
        due("begun", x.begun(), 2);
        due("DEEP", runOf(x, IN, 0, IN, 0, IN, 0, IN, 0, IN, 0, IN, 0, IN, 0), -10 - DEEP);
        due("out of all", x.house(0, NOW), 0);
        due("SPARK", runOf(x, IN, 0, GRIND, 101), -10 - SPARK);
        due("SHORT", runOf(x, IN, 0, IN, 2, CARRY, 1), -10 - SHORT);
        due("ZERO", runOf(x, IN, 0, SHARE, 20), -10 - ZERO);
        due("ROW", runOf(x, WRITE, 8), -10 - ROW);
        due("runs by a fault", x.count(3), 6);
        due("runs", x.count(2), 6);
    }

    private static void actIn() {
        PowderMill x = fourHouses();
        due("in -5 is in 3", runOf(x, IN, -5, IN, 11, IN, Integer.MIN_VALUE), 3);
        due("in 3", x.house(3, TIMES_IN), 2);
        due("in 0", x.house(0, TIMES_IN), 1);
        due("six are not too deep", runOf(x, IN, 2, IN, 2, IN, 2, IN, 2, IN, 2, IN, 2), 6);
        due("in 2", x.house(2, TIMES_IN), 6);
        due("of both DEEP", runOf(x, IN, 2, IN, 2, IN, 2, IN, 2, IN, 2, IN, 2, IN, 7), -10 - DEEP);
        due("the one too deep does not count", runOf(x, IN, 2, IN, 2, IN, 2, IN, 2, IN, 2, IN, 2, IN, 2), -10 - DEEP);
        due("in 2", x.house(2, TIMES_IN), 18);
        due("out makes room", runOf(x, IN, 2, IN, 2, IN, 2, IN, 2, IN, 2, IN, 2, OUT, 0, IN, 0), 8);
    }

    private static void actOut() {
        PowderMill x = fourHouses();
        due("out", runOf(x, IN, 0, IN, 2, OUT, 9, GRIND, 4, OUT, -9, OUT, 0, GRIND, 9, WRITE, 0), 8);
        due("the outer one", x.house(0, POWDER), 4);
        due("the inner one", x.house(2, POWDER), 0);
        due("the yard", x.row(0), -1);
    }

    private static void actGrind() {
        PowderMill x = fourHouses();
        due("up to ten times the walls", runOf(x, IN, 0, GRIND, 1060, GRIND, -960), 3);
        due("no spark", x.house(0, POWDER), 100);
        due("one more", runOf(x, IN, 0, GRIND, 1), -10 - SPARK);
        dueHouse("spark", x, 0, 10, 0, 0, 2, 1, 0, 0);
        due("in the yard", runOf(x, GRIND, 999), 1);
        due("the least int", runOf(x, IN, 3, GRIND, Integer.MIN_VALUE), 2);
        due("the least int", x.house(3, POWDER), Math.floorMod(Integer.MIN_VALUE, 1000));
    }

    private static void actCarry() {
        PowderMill x = fourHouses();
        due("carry", runOf(x, IN, 0, IN, 2, GRIND, 50, CARRY, 1030), 4);
        due("here", x.house(2, POWDER), 20);
        due("around", x.house(0, POWDER), 30);
        due("all of it", runOf(x, IN, 0, IN, 2, CARRY, 20), 3);
        due("around", x.house(0, POWDER), 50);
        due("short by one", runOf(x, IN, 0, IN, 2, GRIND, 7, CARRY, 8), -10 - SHORT);
        due("here stays", x.house(2, POWDER), 7);
        due("around stays", x.house(0, POWDER), 50);
        due("with the yard around", runOf(x, IN, 2, CARRY, 999), 2);
        due("in the yard", runOf(x, CARRY, 999), 1);
        due("here stays", x.house(2, POWDER), 7);
        due("spark around", runOf(x, IN, 0, IN, 2, GRIND, 60, CARRY, 51, WRITE, 0), -10 - SPARK);
        due("here stays gone", x.house(2, POWDER), 16);
        due("here has no spark", x.house(2, SPARKS), 0);
        due("around is empty", x.house(0, POWDER), 0);
        due("around has the spark", x.house(0, SPARKS), 1);
        due("both are one", runOf(x, IN, 2, IN, 2, GRIND, 284, CARRY, 300), 4);
        due("both are one", x.house(2, POWDER), 300);
        due("both are one", x.house(2, SPARKS), 0);
        due("both are one, short", runOf(x, IN, 2, IN, 2, CARRY, 301), -10 - SHORT);
        carrySparkIsCaughtHere();
    }

    private static void carrySparkIsCaughtHere() {
        PowderMill x = new PowderMill();
        x.build(0, 1, true);
        x.build(1, 50, true);
        due("spark around, caught here", runOf(x, IN, 0, IN, 1, GRIND, 40, CARRY, 11, GRIND, 3), 5);
        dueHouse("around", x, 0, 1, 3, 1, 1, 1, 0, 0);
        dueHouse("here", x, 1, 50, 29, 1, 1, 0, 1, 0);
    }

    private static void actShare() {
        PowderMill x = fourHouses();
        due("share", runOf(x, IN, 3, GRIND, 100, SHARE, 13), 3);
        due("cut", x.house(3, POWDER), 33);
        due("share by -2 is by 8", runOf(x, IN, 3, SHARE, -2), 2);
        due("cut", x.house(3, POWDER), 4);
        due("by one", runOf(x, IN, 3, SHARE, 1), 2);
        due("by one", x.house(3, POWDER), 4);
        due("by zero, caught", runOf(x, IN, 3, SHARE, -10), 2);
        due("powder stays", x.house(3, POWDER), 4);
        due("ZERO met", x.count(10 + ZERO), 1);
        due("share outside a refuge", runOf(x, IN, 2, GRIND, 9, SHARE, 2, WRITE, 1), 4);
        due("cut", x.row(1), 4);
        due("by zero in the yard", runOf(x, SHARE, 0), 1);
        due("ZERO met", x.count(10 + ZERO), 1);
    }

    private static void actWrite() {
        PowderMill x = fourHouses();
        due("write", runOf(x, WRITE, 0, IN, 0, GRIND, 12, WRITE, 7, GRIND, 1, WRITE, 3), 6);
        due("the yard", x.row(0), -1);
        due("first", x.row(7), 12);
        due("later", x.row(3), 13);
        due("others", x.row(4), 0);
        for (int i : new int[] {8, -1, -8, 15, Integer.MIN_VALUE, Integer.MAX_VALUE}) {
            due("write " + i, runOf(x, IN, 0, WRITE, i), -10 - ROW);
            due("write in the yard " + i, runOf(x, WRITE, i), -10 - ROW);
        }
        due("rows stay", x.row(7), 12);
        due("rows stay", x.row(0), -1);
    }

    private static void actSkip() {
        PowderMill x = fourHouses();
        due("skip none", runOf(x, SKIP, 4, WRITE, 0, WRITE, 1, WRITE, 2), 4);
        due("skip three", runOf(x, IN, 0, SKIP, -1, WRITE, 0, WRITE, 1, WRITE, 2, WRITE, 3), 3);
        due("passed over", x.row(0), -1);
        due("passed over", x.row(2), -1);
        due("not passed over", x.row(3), 0);
        due("skip to the end", runOf(x, SKIP, 2, WRITE, 4, WRITE, 4), 1);
        due("skip beyond the end", runOf(x, SKIP, 3, WRITE, 4), 1);
        due("skip at the end", runOf(x, OUT, 0, SKIP, 3), 2);
        due("begun", x.begun(), 2);
        due("passed over", x.row(4), 0);
    }

    private static void actAgain() {
        PowderMill x = fourHouses();
        due("again three times", runOf(x, OUT, 0, IN, 3, GRIND, 1, AGAIN, 3), 2 + 4 * 2);
        due("in once", x.house(3, TIMES_IN), 1);
        due("ground", x.house(3, POWDER), 4);
        due("again -2 is twice", runOf(x, IN, 3, GRIND, 1, AGAIN, -2), 1 + 3 * 2);
        due("again 4 is none", runOf(x, IN, 3, GRIND, 1, AGAIN, 4), 3);
        due("ground", x.house(3, POWDER), 8);
        due("in the yard", runOf(x, GRIND, 1, AGAIN, 3), 2);
        due("behind out", runOf(x, IN, 3, OUT, 0, AGAIN, 3), 3);
        due("of two the first goes back twice, the second once more", runOf(x, IN, 3, AGAIN, 2, AGAIN, 3), 7);
        due("the inner stays count anew", runOf(x, IN, 2, IN, 2, AGAIN, 2, OUT, 0, AGAIN, 1), 1 + 2 * (1 + 3 + 1 + 1));
        due("in by the inner in twice", x.house(2, TIMES_IN), 3);
        due("a new stay counts anew", runOf(x, IN, 0, AGAIN, 1, OUT, 0, IN, 0, AGAIN, 1, OUT, 0), 8);
        due("of the outer stay, behind what was caught", runOf(x, IN, 0, IN, 1, AGAIN, 1, WRITE, 9, AGAIN, 1), 1 + 2 * 5);
        due("behind the in that was done", runOf(x, IN, 2, SKIP, 1, IN, 2, IN, 2, AGAIN, 1), 5);
    }

    private static void refuges() {
        PowderMill x = fourHouses();
        due("caught here", runOf(x, IN, 0, IN, 1, WRITE, 9, GRIND, 5), 4);
        due("one is around then", x.house(0, POWDER), 5);
        due("caught", x.house(1, CAUGHT), 1);
        due("caught further out", runOf(x, IN, 2, IN, 1, IN, 0, IN, 0, SHARE, 0, GRIND, 6), 6);
        due("out of all within it", x.house(2, POWDER), 6);
        due("caught", x.house(1, CAUGHT), 2);
        due("the first refuge outwards", runOf(x, IN, 3, IN, 1, IN, 0, WRITE, -1, GRIND, 7), 5);
        due("not the outer one", x.house(3, CAUGHT), 0);
        due("one is in the outer one", x.house(3, POWDER), 7);
        due("the inner stay of one house", runOf(x, IN, 1, IN, 1, WRITE, 9, GRIND, 8), 4);
        due("one is in its outer stay", x.house(1, POWDER), 8);
        due("caught", x.house(1, CAUGHT), 4);
        due("a refuge that one has left", runOf(x, IN, 1, OUT, 0, IN, 4, OUT, 0), -10 - NONE);
        due("caught into the yard", runOf(x, IN, 1, IN, 4, WRITE, 6), 3);
        due("the yard", x.row(6), -1);
        due("its own spark", runOf(x, IN, 1, GRIND, 999, WRITE, 5), 3);
        due("its own spark", x.house(1, SPARKS), 1);
        due("too deep", runOf(x, IN, 3, IN, 0, IN, 0, IN, 0, IN, 0, IN, 0, IN, 1, WRITE, 4), 8);
        due("the yard", x.row(4), -1);
        due("caught", x.house(3, CAUGHT), 1);
        due("the house it was to go into does not catch", x.house(1, CAUGHT), 6);
        due("the last step's fault, caught", runOf(x, IN, 1, WRITE, 8), 2);
        for (int k = 0; k < 4; k++) {
            due("in none", x.house(k, NOW), 0);
        }
    }

    private static void begun() {
        PowderMill x = fourHouses();
        due("ahead of a run", x.begun(), 0);
        runOf(x, IN, 0, IN, 5, OUT, 0);
        due("with a fault", x.begun(), 2);
        x.clear();
        due("behind clear", x.begun(), 2);
        x.run();
        due("of an empty order", x.begun(), 0);
    }

    private static void where() {
        PowderMill x = fourHouses();
        runOf(x, OUT, 0);
        due("ahead of a fault", x.where(), -1);
        runOf(x, IN, 1, OUT, 0, WRITE, 9);
        due("not caught", x.where(), 2);
        runOf(x, IN, 1, WRITE, 9, OUT, 0);
        due("caught", x.where(), 1);
        runOf(x, OUT, 0, OUT, 0);
        due("a run without one", x.where(), 1);
        x.clear();
        due("behind clear", x.where(), 1);
        runOf(x, IN, 1, IN, 1, WRITE, 9, OUT, 0, SKIP, 1, OUT, 0, WRITE, -9);
        due("the latest of two", x.where(), 6);
        runOf(x, WRITE, 9);
        due("the first step", x.where(), 0);
    }

    private static void house() {
        PowderMill x = fourHouses();
        runOf(x, IN, 1, GRIND, 201, IN, 1, IN, 1, GRIND, 9);
        dueHouse("house", x, 1, 20, 9, 1, 3, 1, 1, 0);
        dueHouse("house", x, 2, 30, 0, 0, 0, 0, 0, 0);
        for (int what : new int[] {-1, 7, 8, 10, Integer.MIN_VALUE, Integer.MAX_VALUE}) {
            due("house(1, " + what + ")", x.house(1, what), PowderMill.BAD);
        }
        for (int k : WRONG_PLACES) {
            for (int what = -1; what < 8; what++) {
                due("house(" + k + ", " + what + ")", x.house(k, what), PowderMill.BAD);
            }
        }
        for (int what = -1; what < 8; what++) {
            due("none: house(5, " + what + ")", x.house(5, what), PowderMill.BAD);
        }
    }

    private static void row() {
        PowderMill x = fourHouses();
        runOf(x, IN, 3, GRIND, 77, WRITE, 0, OUT, 0, WRITE, 7);
        dueText("row(0)", rowAnswer(x, 0), "77");
        dueText("row(7)", rowAnswer(x, 7), "-1");
        dueText("row(3)", rowAnswer(x, 3), "0");
        for (int i : WRONG_PLACES) {
            dueText("row(" + i + ")", rowAnswer(x, i), "throws.ArrayIndexOutOfBoundsException");
        }
    }

    private static void count() {
        PowderMill x = fourHouses();
        runOf(x, IN, 1, IN, 7, IN, 7);
        runOf(x, IN, 0, IN, 0, IN, 0, IN, 0, IN, 0, IN, 0, IN, 0);
        runOf(x, IN, 1, GRIND, 999, IN, 1, GRIND, 999, IN, 0, GRIND, 999);
        runOf(x, IN, 0, IN, 3, CARRY, 1, QUIT, 0);
        runOf(x, IN, 1, SHARE, 0, IN, 1, SHARE, 0);
        runOf(x, WRITE, 8);
        runOf(x, QUIT, 0);
        runOf(x, IN, 1, IN, 1, IN, 1, GRIND, 0, AGAIN, 3, OUT, 0, AGAIN, 3, OUT, 0, AGAIN, 3);
        int[] wanted = {4, 9, 8, 4, 1, 2, -1, -1, -1, -1, -1, 2, 1, 3, 1, 2, 1, -1};
        for (int what = 0; what < wanted.length; what++) {
            due("count(" + what + ")", x.count(what), wanted[what]);
        }
        for (int what : new int[] {-1, 18, 100, Integer.MIN_VALUE, Integer.MAX_VALUE}) {
            due("count(" + what + ")", x.count(what), PowderMill.BAD);
        }
    }
}
