import java.lang.annotation.Retention;
import java.lang.annotation.RetentionPolicy;
import java.lang.reflect.InvocationTargetException;
import java.lang.reflect.Method;
import java.util.ArrayList;
import java.util.Arrays;
import java.util.Comparator;
import java.util.List;
import java.util.function.ToIntFunction;

/** Promises 1 to 6 and 8 to 12: each sentence that names a boundary case has a test of its own. Promise 7: PowderMillBoundsOfRuns. */
public final class PowderMillBoundsOfCalls {
    private static final int BAD = PowderMill.BAD, FULL = PowderMill.FULL, SPENT = PowderMill.SPENT;
    private static final int LEAST = Integer.MIN_VALUE, MOST = Integer.MAX_VALUE;
    private static final int IN = 0, OUT = 1, GRIND = 2, CARRY = 3, SHARE = 4, WRITE = 5, QUIT = 6, SKIP = 7, AGAIN = 8;
    private static final int NONE = 1, SPARK = 3, ROW = 6;
    private static final int WALLS = 0, NOW = 6;

    /** What a test holds the class to, by the words of the document or by what follows from them, and the promise that it belongs to. */
    @Retention(RetentionPolicy.RUNTIME)
    private @interface Says {
        int promise();

        String value();
    }

    private static String test = "";
    private static int wrong = 0;

    public static void main(String[] args) throws IllegalAccessException {
        List<Method> tests = new ArrayList<>();
        for (Method m : PowderMillBoundsOfCalls.class.getDeclaredMethods()) {
            if (m.isAnnotationPresent(Says.class)) {
                tests.add(m);
            }
        }
        tests.sort(Comparator.comparing((Method m) -> m.getAnnotation(Says.class).promise()).thenComparing(Method::getName));
        for (Method m : tests) {
            Says says = m.getAnnotation(Says.class);
            test = "Promise " + says.promise() + ", " + m.getName() + " (\"" + says.value() + "\")";
            try {
                m.invoke(null);
            } catch (InvocationTargetException e) {
                wrong++;
                System.out.println(test + ": threw " + e.getCause());
            }
        }
        System.out.println(tests.size() + " boundary tests: " + (wrong == 0 ? "all answers are as due" : wrong + " answers are not as due"));
        if (wrong != 0) {
            System.exit(1);
        }
    }

    private static void due(String call, long got, long want) {
        if (got != want) {
            wrong++;
            System.out.println(test + ": " + call + " answered " + got + ", due is " + want);
        }
    }

    private static void dueAll(String what, int[] got, int... want) {
        if (!Arrays.equals(got, want)) {
            wrong++;
            System.out.println(test + ": " + what + "\n  is  " + Arrays.toString(got) + "\n  due " + Arrays.toString(want));
        }
    }

    /** THE ORDER becomes these: an ACT and its a by turns. */
    private static void order(PowderMill x, int... actsAndNumbers) {
        x.clear();
        for (int i = 0; i < actsAndNumbers.length; i += 2) {
            x.step(actsAndNumbers[i], actsAndNumbers[i + 1]);
        }
    }

    private static int runOf(PowderMill x, int... actsAndNumbers) {
        order(x, actsAndNumbers);
        return x.run();
    }

    /** Goes four times into HOUSE k, one within the other, and back again and again; it comes into it 16 times. */
    private static int runSpent(PowderMill x, int k) {
        return runOf(x, IN, k, IN, k, IN, k, IN, k, AGAIN, 3, OUT, 0, AGAIN, 3, OUT, 0, AGAIN, 3);
    }

    private static int[] houseOf(PowderMill x, int k) {
        int[] told = new int[7];
        for (int what = 0; what < told.length; what++) {
            told[what] = x.house(k, what);
        }
        return told;
    }

    /** All that the mill tells of itself, by 83 calls. */
    private static int[] told(PowderMill x) {
        int[] told = new int[83];
        int n = 0;
        for (int k = 0; k < 8; k++) {
            for (int what = 0; what < 7; what++) {
                told[n++] = x.house(k, what);
            }
            told[n++] = x.row(k);
        }
        for (int what = 0; what < 17; what++) {
            told[n++] = x.count(what);
        }
        told[n++] = x.begun();
        told[n] = x.where();
        return told;
    }

    /** Three HOUSES (1 is a REFUGE), a RUN behind it of each way to end, and an ORDER of 8 STEPS. */
    private static PowderMill used() {
        PowderMill x = new PowderMill();
        x.build(0, 10, false);
        x.build(1, 20, true);
        x.build(7, 30, false);
        runOf(x, QUIT, 0);
        runSpent(x, 0);
        runOf(x, IN, 1, GRIND, 999, IN, 0, GRIND, 5, WRITE, 2, WRITE, 8);
        runOf(x, WRITE, 0, IN, 7, GRIND, 40, WRITE, 7, IN, 1, GRIND, 3, SHARE, 0, GRIND, 2);
        return x;
    }

    /** The call is refused with the answer that is due, tells the same before and behind it, and leaves THE ORDER as a twin has it. */
    private static void refused(String call, int want, ToIntFunction<PowderMill> made) {
        refusedIn(used(), used(), call, want, made);
    }

    private static void refusedIn(PowderMill x, PowderMill twin, String call, int want, ToIntFunction<PowderMill> made) {
        due(call, made.applyAsInt(x), want);
        dueAll("told behind " + call, told(x), told(twin));
        due("run() behind " + call, x.run(), twin.run());
        dueAll("told behind " + call + " and run()", told(x), told(twin));
    }

    private static PowderMill fullOrder() {
        PowderMill x = used();
        while (x.count(1) < 30) {
            x.step(WRITE, 4);
        }
        return x;
    }

    // ---- Promise 1: a new object

    @Says(promise = 1, value = "No HOUSES")
    private static void newHasNoHouses() {
        PowderMill x = new PowderMill();
        due("count(0)", x.count(0), 0);
        for (int k = 0; k < 8; k++) {
            dueAll("house " + k, houseOf(x, k), BAD, BAD, BAD, BAD, BAD, BAD, BAD);
            due("IN " + k, runOf(x, IN, k), -10 - NONE);
        }
    }

    @Says(promise = 1, value = "THE ORDER is empty")
    private static void newOrderIsEmpty() {
        PowderMill x = new PowderMill();
        due("count(1)", x.count(1), 0);
        due("alter(0, 1, 0)", x.alter(0, OUT, 0), BAD);
        due("run()", x.run(), 0);
        due("clear()", x.clear(), 0);
        due("step(1, 0)", x.step(OUT, 0), 1);
    }

    @Says(promise = 1, value = "THE LEDGER has ROWS 0 .. 7 (ints, 0 at first)")
    private static void newLedgerIsZero() {
        PowderMill x = new PowderMill();
        for (int i = 0; i < 8; i++) {
            due("row(" + i + ")", x.row(i), 0);
        }
    }

    @Says(promise = 1, value = "no RUN and no FAULT at first")
    private static void newHasCountedNothing() {
        PowderMill x = new PowderMill();
        for (int what : new int[] {2, 3, 4, 5, 11, 12, 13, 14, 15, 16}) {
            due("count(" + what + ")", x.count(what), 0);
        }
    }

    @Says(promise = 1, value = "another object's calls are none of this one's")
    private static void newIsNotAnothers() {
        PowderMill x = used();
        PowderMill y = new PowderMill();
        int[] before = told(y);
        x.build(4, 4, true);
        runOf(x, WRITE, 4, WRITE, 8);
        dueAll("told", told(y), before);
    }

    @Says(promise = 1, value = "An object is used for at most 512 calls after it has been made")
    private static void newServesFor512Calls() {
        PowderMill x = new PowderMill();
        x.build(0, 100, true);
        x.step(IN, 0);
        x.step(GRIND, 2);
        x.step(AGAIN, 1);
        // Each run grinds 4 into it, so each 251st has the spark above 1000, which is caught: AGAIN is in THE YARD then.
        for (int r = 1; r <= 508; r++) {
            due("run() as call " + (4 + r), x.run(), r % 251 == 0 ? 3 : 5);
        }
    }

    // ---- Promise 2: build

    @Says(promise = 2, value = "HOUSES 0 .. 7: the first and the last place")
    private static void buildInTheFirstAndTheLastPlace() {
        PowderMill x = new PowderMill();
        due("build(0, ..)", x.build(0, 5, false), 0);
        due("build(7, ..)", x.build(7, 6, true), 0);
        due("count(0)", x.count(0), 2);
        dueAll("house 0", houseOf(x, 0), 5, 0, 0, 0, 0, 0, 0);
        dueAll("house 7", houseOf(x, 7), 6, 0, 1, 0, 0, 0, 0);
    }

    @Says(promise = 2, value = "HOUSES 0 .. 7: all places at once")
    private static void buildInAllPlaces() {
        PowderMill x = new PowderMill();
        for (int k = 0; k < 8; k++) {
            due("build", x.build(k, 10 + k, k % 3 == 0), 0);
            due("count(0)", x.count(0), k + 1);
        }
        for (int k = 0; k < 8; k++) {
            dueAll("house " + k, houseOf(x, k), 10 + k, 0, k % 3 == 0 ? 1 : 0, 0, 0, 0, 0);
        }
        due("build once more", x.build(3, 1, false), 1);
        due("count(0)", x.count(0), 8);
    }

    @Says(promise = 2, value = "BAD: a place too small; it changes nothing")
    private static void buildBelowTheFirstPlace() {
        for (int k : new int[] {-1, -7, -8, LEAST}) {
            refused("build(" + k + ", 5, true)", BAD, x -> x.build(k, 5, true));
        }
    }

    @Says(promise = 2, value = "BAD: a place too large; it changes nothing")
    private static void buildBeyondTheLastPlace() {
        for (int k : new int[] {8, 9, 15, 16, MOST}) {
            refused("build(" + k + ", 5, true)", BAD, x -> x.build(k, 5, true));
        }
    }

    @Says(promise = 2, value = "WALLS (1 .. 100): the fewest")
    private static void buildWithOneWall() {
        PowderMill x = new PowderMill();
        due("build(2, 1, true)", x.build(2, 1, true), 0);
        dueAll("house 2", houseOf(x, 2), 1, 0, 1, 0, 0, 0, 0);
    }

    @Says(promise = 2, value = "WALLS (1 .. 100): the most")
    private static void buildWithAHundredWalls() {
        PowderMill x = new PowderMill();
        due("build(2, 100, false)", x.build(2, 100, false), 0);
        dueAll("house 2", houseOf(x, 2), 100, 0, 0, 0, 0, 0, 0);
    }

    @Says(promise = 2, value = "BAD: WALLS below 1; it changes nothing")
    private static void buildWithTooFewWalls() {
        for (int walls : new int[] {0, -1, -100, LEAST}) {
            refused("build(1, " + walls + ", false)", BAD, x -> x.build(1, walls, false));
            refused("build(5, " + walls + ", false)", BAD, x -> x.build(5, walls, false));
        }
    }

    @Says(promise = 2, value = "BAD: WALLS above 100; it changes nothing")
    private static void buildWithTooManyWalls() {
        for (int walls : new int[] {101, 1000, MOST}) {
            refused("build(1, " + walls + ", false)", BAD, x -> x.build(1, walls, false));
            refused("build(5, " + walls + ", false)", BAD, x -> x.build(5, walls, false));
        }
    }

    @Says(promise = 2, value = "BAD: neither the place nor the WALLS are as told")
    private static void buildWithBothWrong() {
        refused("build(8, 0, true)", BAD, x -> x.build(8, 0, true));
        refused("build(-1, 101, true)", BAD, x -> x.build(-1, 101, true));
    }

    @Says(promise = 2, value = "1 if one did, else 0")
    private static void buildTellsWhetherOneStood() {
        PowderMill x = new PowderMill();
        due("where none stood", x.build(4, 5, false), 0);
        due("where one stood", x.build(4, 5, false), 1);
        x.raze(4);
        due("where one stood and was razed", x.build(4, 5, false), 0);
    }

    @Says(promise = 2, value = "A new HOUSE stands in place k (of the one that stood there); POWDER 0 at first")
    private static void buildMakesAllOfItNew() {
        PowderMill x = new PowderMill();
        x.build(4, 5, true);
        x.build(3, 6, false);
        runOf(x, IN, 4, GRIND, 51, IN, 4, GRIND, 20, IN, 3, GRIND, 7);
        dueAll("house 4 before", houseOf(x, 4), 5, 20, 1, 2, 1, 1, 0);
        due("build(4, 9, false)", x.build(4, 9, false), 1);
        dueAll("house 4", houseOf(x, 4), 9, 0, 0, 0, 0, 0, 0);
        dueAll("house 3 stays", houseOf(x, 3), 6, 7, 0, 1, 0, 0, 0);
        due("count(13) stays", x.count(10 + SPARK), 1);
        due("one is in no refuge any more", runOf(x, IN, 4, WRITE, 8, OUT, 0), -10 - ROW);
    }

    @Says(promise = 2, value = "A new HOUSE stands in place k: all else stays")
    private static void buildLeavesAllElse() {
        for (int k : new int[] {1, 5}) {
            int[] wanted = told(used());
            System.arraycopy(new int[] {9, 0, 0, 0, 0, 0, 0}, 0, wanted, 8 * k, 7);
            wanted[8 * 8] = k == 1 ? 3 : 4;
            PowderMill x = used();
            x.build(k, 9, false);
            dueAll("told behind build(" + k + ", 9, false)", told(x), wanted);
        }
    }

    // ---- Promise 3: raze

    @Says(promise = 3, value = "HOUSES 0 .. 7: the first and the last place")
    private static void razeTheFirstAndTheLastPlace() {
        PowderMill x = used();
        due("raze(0)", x.raze(0), 1);
        due("raze(7)", x.raze(7), 1);
        due("count(0)", x.count(0), 1);
        due("house(0, 0)", x.house(0, WALLS), BAD);
        due("house(7, 0)", x.house(7, WALLS), BAD);
        due("house(1, 0)", x.house(1, WALLS), 20);
    }

    @Says(promise = 3, value = "1 if there was one, else 0: in a mill without HOUSES")
    private static void razeInAnEmptyMill() {
        PowderMill x = new PowderMill();
        for (int k = 0; k < 8; k++) {
            due("raze(" + k + ")", x.raze(k), 0);
        }
        due("count(0)", x.count(0), 0);
    }

    @Says(promise = 3, value = "1 if there was one, else 0: twice, and where none ever stood")
    private static void razeWhatIsNotThere() {
        PowderMill x = used();
        due("raze(1)", x.raze(1), 1);
        due("raze(1) again", x.raze(1), 0);
        refused("raze(4)", 0, y -> y.raze(4));
    }

    @Says(promise = 3, value = "There is no HOUSE k")
    private static void razeLeavesNoHouse() {
        PowderMill x = used();
        due("raze(1)", x.raze(1), 1);
        dueAll("house 1", houseOf(x, 1), BAD, BAD, BAD, BAD, BAD, BAD, BAD);
        due("IN 1", runOf(x, IN, 1), -10 - NONE);
        x.build(1, 3, false);
        dueAll("house 1 built behind it", houseOf(x, 1), 3, 0, 0, 0, 0, 0, 0);
    }

    @Says(promise = 3, value = "There is no HOUSE k: all else stays")
    private static void razeLeavesAllElse() {
        int[] wanted = told(used());
        Arrays.fill(wanted, 8, 8 + 7, BAD);
        wanted[8 * 8] = 2;
        PowderMill x = used();
        x.raze(1);
        dueAll("told behind raze(1)", told(x), wanted);
    }

    @Says(promise = 3, value = "There is no HOUSE k: all of them razed")
    private static void razeTheLastHouseLeft() {
        PowderMill x = used();
        x.raze(0);
        x.raze(1);
        due("count(0)", x.count(0), 1);
        due("raze(7)", x.raze(7), 1);
        due("count(0)", x.count(0), 0);
    }

    @Says(promise = 3, value = "BAD: a place too small; it changes nothing")
    private static void razeBelowTheFirstPlace() {
        for (int k : new int[] {-1, -7, -8, LEAST}) {
            refused("raze(" + k + ")", BAD, x -> x.raze(k));
        }
    }

    @Says(promise = 3, value = "BAD: a place too large; it changes nothing")
    private static void razeBeyondTheLastPlace() {
        for (int k : new int[] {8, 9, 15, MOST}) {
            refused("raze(" + k + ")", BAD, x -> x.raze(k));
        }
    }

    // ---- Promise 4: step

    @Says(promise = 4, value = "A STEP comes behind THE ORDER: how many; up to 30 STEPS")
    private static void stepUpToThirty() {
        PowderMill x = new PowderMill();
        for (int i = 0; i < 30; i++) {
            due("step", x.step(i % 9, i), i + 1);
            due("count(1)", x.count(1), i + 1);
        }
        for (int i = 0; i < 30; i++) {
            due("the ACT of STEP " + i, x.alter(i, OUT, 0), i % 9);
        }
        due("run()", x.run(), 30);
    }

    @Says(promise = 4, value = "FULL: 30 STEPS; it changes nothing")
    private static void stepBeyondThirty() {
        for (int act = 0; act <= 8; act++) {
            int wanted = act;
            refusedIn(fullOrder(), fullOrder(), "step(" + act + ", 3)", FULL, x -> x.step(wanted, 3));
        }
        PowderMill x = fullOrder();
        due("step", x.step(QUIT, 0), FULL);
        due("step again", x.step(QUIT, 0), FULL);
        due("the ACT of the last STEP", x.alter(29, OUT, 0), WRITE);
        due("clear()", x.clear(), 30);
        due("step behind clear()", x.step(QUIT, 0), 1);
    }

    @Says(promise = 4, value = "an ACT 0 .. 8: the first and the last")
    private static void stepWithTheFirstAndTheLastAct() {
        PowderMill x = new PowderMill();
        due("step(0, 0)", x.step(IN, 0), 1);
        due("step(8, 0)", x.step(AGAIN, 0), 2);
        due("the first", x.alter(0, OUT, 0), IN);
        due("the last", x.alter(1, OUT, 0), AGAIN);
    }

    @Says(promise = 4, value = "BAD: the ACT, too small; it changes nothing")
    private static void stepWithTooSmallAnAct() {
        for (int act : new int[] {-1, -9, LEAST}) {
            refused("step(" + act + ", 0)", BAD, x -> x.step(act, 0));
        }
    }

    @Says(promise = 4, value = "BAD: the ACT, too large; it changes nothing")
    private static void stepWithTooLargeAnAct() {
        for (int act : new int[] {9, 10, 17, MOST}) {
            refused("step(" + act + ", 0)", BAD, x -> x.step(act, 0));
        }
    }

    @Says(promise = 4, value = "BAD: the ACT; FULL: of both the one that is named first")
    private static void stepWithAWrongActIntoAFullOrder() {
        for (int act : new int[] {-1, 9}) {
            refusedIn(fullOrder(), fullOrder(), "step(" + act + ", 0)", BAD, x -> x.step(act, 0));
        }
    }

    @Says(promise = 4, value = "an a (any int)")
    private static void stepWithAnyNumber() {
        for (int a : new int[] {LEAST, LEAST + 1, -1, 0, 1, MOST - 1, MOST}) {
            PowderMill x = new PowderMill();
            for (int act = 0; act <= 8; act++) {
                due("step(" + act + ", " + a + ")", x.step(act, a), act + 1);
            }
        }
    }

    // ---- Promise 5: clear

    @Says(promise = 5, value = "how many STEPS it had: none")
    private static void clearAnEmptyOrder() {
        PowderMill x = used();
        due("clear()", x.clear(), 8);
        int[] before = told(x);
        due("clear() again", x.clear(), 0);
        dueAll("told", told(x), before);
    }

    @Says(promise = 5, value = "how many STEPS it had: 30")
    private static void clearAFullOrder() {
        PowderMill x = fullOrder();
        due("clear()", x.clear(), 30);
        due("count(1)", x.count(1), 0);
        for (int i = 1; i <= 30; i++) {
            due("step", x.step(OUT, 0), i);
        }
        due("clear() again", x.clear(), 30);
    }

    @Says(promise = 5, value = "THE ORDER is empty")
    private static void clearLeavesNoStep() {
        PowderMill x = new PowderMill();
        order(x, WRITE, 0, WRITE, 1, WRITE, 2);
        due("clear()", x.clear(), 3);
        due("alter(0, ..)", x.alter(0, OUT, 0), BAD);
        due("run()", x.run(), 0);
        due("step", x.step(OUT, 0), 1);
        due("the old steps are not behind the new one", x.run(), 1);
        due("row(0)", x.row(0), 0);
        due("row(1)", x.row(1), 0);
    }

    @Says(promise = 5, value = "THE ORDER alone is emptied")
    private static void clearLeavesAllElse() {
        PowderMill x = used();
        int[] before = told(x);
        before[8 * 8 + 1] = 0;
        x.clear();
        dueAll("told but for count(1)", told(x), before);
    }

    // ---- Promise 6: alter

    @Says(promise = 6, value = "STEP i (that is there): the first and the last")
    private static void alterTheFirstAndTheLastStep() {
        PowderMill x = new PowderMill();
        order(x, OUT, 0, GRIND, 0, SKIP, 0);
        due("alter(0, 5, 1)", x.alter(0, WRITE, 1), OUT);
        due("alter(2, 5, 6)", x.alter(2, WRITE, 6), SKIP);
        due("count(1)", x.count(1), 3);
        due("run()", x.run(), 3);
        due("row(1)", x.row(1), -1);
        due("row(6)", x.row(6), -1);
    }

    @Says(promise = 6, value = "STEP i (that is there): one STEP alone")
    private static void alterTheOnlyStep() {
        PowderMill x = new PowderMill();
        order(x, OUT, 0);
        due("alter(1, ..)", x.alter(1, WRITE, 1), BAD);
        due("alter(0, ..)", x.alter(0, WRITE, 1), OUT);
        due("alter(0, ..) again", x.alter(0, WRITE, 2), WRITE);
        due("run()", x.run(), 1);
        due("row(1)", x.row(1), 0);
        due("row(2)", x.row(2), -1);
    }

    @Says(promise = 6, value = "STEP i (that is there): THE ORDER is empty")
    private static void alterInAnEmptyOrder() {
        PowderMill x = used();
        x.clear();
        for (int i : new int[] {-1, 0, 1, 7, 29, 30}) {
            due("alter(" + i + ", ..)", x.alter(i, OUT, 0), BAD);
        }
        due("count(1)", x.count(1), 0);
        due("run()", x.run(), 0);
    }

    @Says(promise = 6, value = "STEP i (that is there): THE ORDER is full")
    private static void alterInAFullOrder() {
        PowderMill x = fullOrder();
        due("alter(29, ..)", x.alter(29, QUIT, 0), WRITE);
        due("alter(29, ..) again", x.alter(29, OUT, 0), QUIT);
        due("count(1)", x.count(1), 30);
        for (int i : new int[] {30, 31}) {
            refusedIn(fullOrder(), fullOrder(), "alter(" + i + ", ..)", BAD, y -> y.alter(i, QUIT, 0));
        }
    }

    @Says(promise = 6, value = "BAD: a STEP too small; it changes nothing")
    private static void alterBelowTheFirstStep() {
        for (int i : new int[] {-1, -8, LEAST}) {
            refused("alter(" + i + ", 6, 0)", BAD, x -> x.alter(i, QUIT, 0));
        }
    }

    @Says(promise = 6, value = "BAD: a STEP behind the last one; it changes nothing")
    private static void alterBeyondTheLastStep() {
        for (int i : new int[] {8, 9, 29, 30, MOST}) {
            refused("alter(" + i + ", 6, 0)", BAD, x -> x.alter(i, QUIT, 0));
        }
    }

    @Says(promise = 6, value = "BAD: also the ACT, too small; it changes nothing")
    private static void alterToTooSmallAnAct() {
        for (int act : new int[] {-1, -9, LEAST}) {
            refused("alter(1, " + act + ", 0)", BAD, x -> x.alter(1, act, 0));
        }
    }

    @Says(promise = 6, value = "BAD: also the ACT, too large; it changes nothing")
    private static void alterToTooLargeAnAct() {
        for (int act : new int[] {9, 10, MOST}) {
            refused("alter(1, " + act + ", 0)", BAD, x -> x.alter(1, act, 0));
        }
    }

    @Says(promise = 6, value = "BAD: neither the STEP nor the ACT is as told")
    private static void alterWithBothWrong() {
        refused("alter(8, 9, 0)", BAD, x -> x.alter(8, 9, 0));
        refused("alter(-1, -1, 0)", BAD, x -> x.alter(-1, -1, 0));
    }

    @Says(promise = 6, value = "an ACT 0 .. 8 with an a (any int); the ACT that it was")
    private static void alterToEachActWithAnyNumber() {
        PowderMill x = new PowderMill();
        order(x, OUT, 0);
        int before = OUT;
        for (int act = 0; act <= 8; act++) {
            for (int a : new int[] {LEAST, -1, 0, MOST}) {
                due("alter(0, " + act + ", " + a + ")", x.alter(0, act, a), before);
                before = act;
            }
        }
        due("count(1)", x.count(1), 1);
    }

    // ---- Promise 8: begun

    @Says(promise = 8, value = "0 ahead of one")
    private static void begunAheadOfARun() {
        PowderMill x = new PowderMill();
        due("begun()", x.begun(), 0);
        x.build(0, 1, true);
        order(x, IN, 0, OUT, 0);
        due("begun() with an order", x.begun(), 0);
        x.run();
        due("begun() behind a run", x.begun(), 2);
    }

    @Says(promise = 8, value = "the latest RUN: of an empty ORDER")
    private static void begunOfAnEmptyOrder() {
        PowderMill x = new PowderMill();
        runOf(x, OUT, 0, OUT, 0, OUT, 0);
        due("begun()", x.begun(), 3);
        x.clear();
        due("begun() behind clear()", x.begun(), 3);
        x.run();
        due("begun() of none", x.begun(), 0);
    }

    @Says(promise = 8, value = "How many STEPS the latest RUN began: of one SPENT")
    private static void begunOfASpentRun() {
        PowderMill x = new PowderMill();
        x.build(0, 1, false);
        due("run()", runSpent(x, 0), SPENT);
        due("begun()", x.begun(), 80);
    }

    @Says(promise = 8, value = "Each STEP that is begun counts (also one that meets a FAULT; those passed over do not)")
    private static void begunCountsAFaultAndNoStepPassedOver() {
        PowderMill x = new PowderMill();
        x.build(0, 1, true);
        runOf(x, WRITE, 8, OUT, 0);
        due("begun() with the first STEP's FAULT", x.begun(), 1);
        runOf(x, IN, 0, WRITE, 8, OUT, 0);
        due("begun() with one caught", x.begun(), 3);
        runOf(x, SKIP, 3, OUT, 0, OUT, 0, OUT, 0, OUT, 0);
        due("begun() with three passed over", x.begun(), 2);
        runOf(x, OUT, 0, QUIT, 0, OUT, 0);
        due("begun() with QUIT", x.begun(), 2);
    }

    @Says(promise = 8, value = "refused calls change nothing")
    private static void begunBehindRefusedCalls() {
        PowderMill x = new PowderMill();
        runOf(x, OUT, 0, OUT, 0);
        x.step(9, 0);
        x.alter(2, OUT, 0);
        x.build(8, 1, true);
        due("begun()", x.begun(), 2);
    }

    // ---- Promise 9: where

    @Says(promise = 9, value = "-1 ahead of one")
    private static void whereAheadOfAFault() {
        PowderMill x = new PowderMill();
        due("where()", x.where(), -1);
        x.run();
        due("where() behind an empty run", x.where(), -1);
        runOf(x, OUT, 0, GRIND, 5, CARRY, 5, SHARE, 0, WRITE, 0, SKIP, 0, AGAIN, 3, QUIT, 0);
        due("where() behind a run without one", x.where(), -1);
        x.build(0, 1, false);
        runSpent(x, 0);
        due("where() behind a SPENT run", x.where(), -1);
    }

    @Says(promise = 9, value = "The number of the latest FAULT's STEP in THE ORDER: the first one's")
    private static void whereOfTheFirstStep() {
        PowderMill x = new PowderMill();
        runOf(x, WRITE, 8);
        due("where()", x.where(), 0);
    }

    @Says(promise = 9, value = "The number of the latest FAULT's STEP in THE ORDER: the 30th one's")
    private static void whereOfTheLastStep() {
        PowderMill x = new PowderMill();
        for (int i = 0; i < 29; i++) {
            x.step(OUT, 0);
        }
        x.step(WRITE, 8);
        due("run()", x.run(), -10 - ROW);
        due("where()", x.where(), 29);
    }

    @Says(promise = 9, value = "caught or not")
    private static void whereOfOneCaughtAndOneNot() {
        PowderMill x = new PowderMill();
        x.build(0, 1, true);
        due("run(), caught", runOf(x, OUT, 0, IN, 0, WRITE, 8, OUT, 0), 4);
        due("where(), caught", x.where(), 2);
        due("run(), not caught", runOf(x, OUT, 0, WRITE, 8, OUT, 0), -10 - ROW);
        due("where(), not caught", x.where(), 1);
    }

    @Says(promise = 9, value = "the latest FAULT's: of two in one RUN")
    private static void whereOfTwoInOneRun() {
        PowderMill x = new PowderMill();
        x.build(0, 1, true);
        runOf(x, IN, 0, WRITE, 8, IN, 0, SHARE, 0, WRITE, 1);
        due("where(), both caught", x.where(), 3);
        runOf(x, IN, 0, WRITE, 8, WRITE, 8);
        due("where(), the second not caught", x.where(), 2);
    }

    @Says(promise = 9, value = "its number in THE ORDER, not how many were begun")
    private static void whereBehindSkipAndAgain() {
        PowderMill x = new PowderMill();
        x.build(0, 1, false);
        runOf(x, SKIP, 3, OUT, 0, OUT, 0, OUT, 0, WRITE, 8);
        due("where() behind SKIP", x.where(), 4);
        runOf(x, IN, 0, AGAIN, 3, WRITE, 8);
        due("where() behind AGAIN", x.where(), 2);
        runOf(x, IN, 0, GRIND, 4, AGAIN, 3);
        due("where() in the third time", x.where(), 1);
    }

    @Says(promise = 9, value = "(as it was then)")
    private static void whereBehindAnOrderThatIsGone() {
        PowderMill x = new PowderMill();
        runOf(x, OUT, 0, OUT, 0, WRITE, 8);
        x.alter(2, OUT, 0);
        due("where() behind alter", x.where(), 2);
        x.run();
        due("where() behind a run without one", x.where(), 2);
        x.clear();
        due("where() behind clear", x.where(), 2);
        x.run();
        due("where() behind an empty run", x.where(), 2);
    }

    // ---- Promise 10: house

    @Says(promise = 10, value = "Of HOUSE k: 0 .. 6: the first and the last of each")
    private static void houseTellsItsSevenNumbers() {
        PowderMill x = used();
        dueAll("house 0", houseOf(x, 0), 10, 5, 0, 17, 0, 0, 0);
        dueAll("house 1", houseOf(x, 1), 20, 3, 1, 2, 1, 2, 0);
        dueAll("house 7", houseOf(x, 7), 30, 42, 0, 1, 0, 0, 0);
    }

    @Says(promise = 10, value = "BAD: a number too small names nothing of a HOUSE; it changes nothing")
    private static void houseWithTooSmallAWhat() {
        for (int what : new int[] {-1, -7, LEAST}) {
            refused("house(1, " + what + ")", BAD, x -> x.house(1, what));
        }
    }

    @Says(promise = 10, value = "BAD: a number too large names nothing of a HOUSE; it changes nothing")
    private static void houseWithTooLargeAWhat() {
        for (int what : new int[] {7, 8, 13, MOST}) {
            refused("house(1, " + what + ")", BAD, x -> x.house(1, what));
        }
    }

    @Says(promise = 10, value = "BAD: a place too small or too large; it changes nothing")
    private static void houseOfNoPlace() {
        for (int k : new int[] {-1, LEAST, 8, 9, MOST}) {
            refused("house(" + k + ", 0)", BAD, x -> x.house(k, WALLS));
            refused("house(" + k + ", 6)", BAD, x -> x.house(k, NOW));
            refused("house(" + k + ", 7)", BAD, x -> x.house(k, 7));
        }
    }

    @Says(promise = 10, value = "BAD: also none")
    private static void houseWhereNoneStands() {
        PowderMill x = used();
        dueAll("where none ever stood", houseOf(x, 4), BAD, BAD, BAD, BAD, BAD, BAD, BAD);
        x.raze(1);
        dueAll("where one was razed", houseOf(x, 1), BAD, BAD, BAD, BAD, BAD, BAD, BAD);
        due("house(1, -1)", x.house(1, -1), BAD);
        due("house(1, 7)", x.house(1, 7), BAD);
    }

    @Says(promise = 10, value = "6 how often one is in it now; Behind a RUN, whichever way it ended, one is in none")
    private static void houseIsLeftBehindEachRun() {
        PowderMill x = new PowderMill();
        x.build(0, 1, false);
        x.build(1, 1, true);
        due("ahead of a run", x.house(0, NOW), 0);
        runOf(x, IN, 0, IN, 0, IN, 1);
        due("0 behind the end", x.house(0, NOW), 0);
        due("1 behind the end", x.house(1, NOW), 0);
        runOf(x, IN, 0, IN, 1, IN, 0, QUIT, 0);
        due("0 behind QUIT", x.house(0, NOW), 0);
        due("1 behind QUIT", x.house(1, NOW), 0);
        runOf(x, IN, 0, IN, 0, WRITE, 8);
        due("0 behind a FAULT", x.house(0, NOW), 0);
        runOf(x, IN, 0, IN, 1, IN, 1, IN, 0, WRITE, 8);
        due("0 behind one caught", x.house(0, NOW), 0);
        due("1 behind one caught", x.house(1, NOW), 0);
        due("run()", runSpent(x, 0), SPENT);
        due("0 behind SPENT", x.house(0, NOW), 0);
        due("run()", runSpent(x, 1), SPENT);
        due("1 behind SPENT", x.house(1, NOW), 0);
    }

    // ---- Promise 11: row

    private static String rowAnswer(PowderMill x, int i) {
        try {
            return "" + x.row(i);
        } catch (RuntimeException e) {
            // The machine's own throw tells the index and the length; the class must not leave it to the machine.
            boolean byTheMachine = ("" + e.getMessage()).contains("for length");
            return (byTheMachine ? "throws by the machine." : "throws.") + e.getClass().getName();
        }
    }

    private static void dueRow(PowderMill x, int i, String want) {
        String got = rowAnswer(x, i);
        if (!got.equals(want)) {
            wrong++;
            System.out.println(test + ": row(" + i + ") answered " + got + ", due is " + want);
        }
    }

    private static void noSuchRow(int i) {
        PowderMill x = used();
        dueRow(x, i, "throws.java.lang.ArrayIndexOutOfBoundsException");
        dueRow(x, i, "throws.java.lang.ArrayIndexOutOfBoundsException");
        dueAll("told behind row(" + i + ")", told(x), told(used()));
    }

    @Says(promise = 11, value = "THE LEDGER has ROWS 0 .. 7: the first and the last")
    private static void rowTheFirstAndTheLast() {
        PowderMill x = used();
        dueRow(x, 0, "-1");
        dueRow(x, 7, "40");
        dueRow(x, 2, "5");
        dueRow(x, 6, "0");
    }

    @Says(promise = 11, value = "ArrayIndexOutOfBoundsException: there is none such: too small; it changes nothing")
    private static void rowBelowTheFirst() {
        for (int i : new int[] {-1, -7, -8, LEAST}) {
            noSuchRow(i);
        }
    }

    @Says(promise = 11, value = "ArrayIndexOutOfBoundsException: there is none such: too large; it changes nothing")
    private static void rowBeyondTheLast() {
        for (int i : new int[] {8, 9, 15, 16, MOST}) {
            noSuchRow(i);
        }
    }

    // ---- Promise 12: count

    @Says(promise = 12, value = "0 HOUSES there are: none, and eight")
    private static void countHousesFromNoneToEight() {
        PowderMill x = new PowderMill();
        for (int k = 0; k < 8; k++) {
            due("count(0)", x.count(0), k);
            x.build(7 - k, 1, false);
        }
        due("count(0)", x.count(0), 8);
        x.build(0, 2, true);
        due("count(0) behind one built anew", x.count(0), 8);
        x.raze(0);
        x.raze(0);
        due("count(0) behind one razed twice", x.count(0), 7);
    }

    @Says(promise = 12, value = "1 STEPS of THE ORDER: none, and 30")
    private static void countStepsFromNoneToThirty() {
        PowderMill x = new PowderMill();
        for (int i = 0; i < 30; i++) {
            due("count(1)", x.count(1), i);
            x.step(OUT, 0);
        }
        due("count(1)", x.count(1), 30);
        x.step(OUT, 0);
        due("count(1) behind FULL", x.count(1), 30);
        x.run();
        due("count(1) behind a run", x.count(1), 30);
        x.clear();
        due("count(1) behind clear", x.count(1), 0);
    }

    @Says(promise = 12, value = "2 RUNS, 3 RUNS that ended by a FAULT, 4 SPENT ones, 5 those that QUIT: each way by itself")
    private static void countEachWayARunEnds() {
        PowderMill x = new PowderMill();
        x.build(0, 1, true);
        x.run();
        dueRuns(x, "of an empty order", 1, 0, 0, 0);
        runOf(x, IN, 0);
        dueRuns(x, "to its end", 2, 0, 0, 0);
        runOf(x, IN, 0, WRITE, 8);
        dueRuns(x, "with a FAULT caught", 3, 0, 0, 0);
        runOf(x, WRITE, 8);
        dueRuns(x, "by a FAULT", 4, 1, 0, 0);
        runSpent(x, 0);
        dueRuns(x, "SPENT", 5, 1, 1, 0);
        runOf(x, QUIT, 0);
        dueRuns(x, "that QUIT", 6, 1, 1, 1);
        runOf(x, SKIP, 1, QUIT, 0);
        dueRuns(x, "with QUIT passed over", 7, 1, 1, 1);
        runOf(x, WRITE, 8, QUIT, 0);
        dueRuns(x, "by a FAULT ahead of QUIT", 8, 2, 1, 1);
        runOf(x, IN, 0, WRITE, 8, QUIT, 0);
        dueRuns(x, "that QUIT behind a FAULT caught", 9, 2, 1, 2);
    }

    private static void dueRuns(PowderMill x, String what, int... wanted) {
        for (int i = 0; i < wanted.length; i++) {
            due("count(" + (2 + i) + ") behind a run " + what, x.count(2 + i), wanted[i]);
        }
    }

    @Says(promise = 12, value = "10 + f: how often FAULT f was met, caught or not: each FAULT by itself")
    private static void countEachFault() {
        int[][] orders = {
            {}, {IN, 7}, {IN, 1, IN, 1, IN, 1, IN, 1, IN, 1, IN, 1, IN, 1}, {IN, 1, GRIND, 11}, {IN, 1, IN, 1, CARRY, 1}, {IN, 1, SHARE, 0}, {WRITE, 8}
        };
        int[][] inARefuge = {
            {}, {IN, 0, IN, 7}, {IN, 0, IN, 1, IN, 1, IN, 1, IN, 1, IN, 1, IN, 1}, {IN, 0, GRIND, 11}, {IN, 0, IN, 1, CARRY, 1}, {IN, 0, SHARE, 0}, {IN, 0, WRITE, 8}
        };
        for (int f = NONE; f <= ROW; f++) {
            PowderMill x = new PowderMill();
            x.build(0, 1, true);
            x.build(1, 1, false);
            due("run()", runOf(x, orders[f]), -10 - f);
            dueOneFault(x, f, 1);
            due("run(), caught", runOf(x, inARefuge[f]), inARefuge[f].length / 2);
            dueOneFault(x, f, 2);
        }
    }

    private static void dueOneFault(PowderMill x, int f, int times) {
        for (int i = NONE; i <= ROW; i++) {
            due("count(" + (10 + i) + ") behind FAULT " + f, x.count(10 + i), i == f ? times : 0);
        }
    }

    @Says(promise = 12, value = "BAD: below 0; it changes nothing")
    private static void countBelowTheFirst() {
        for (int what : new int[] {-1, -10, LEAST, LEAST + 10}) {
            refused("count(" + what + ")", BAD, x -> x.count(what));
        }
    }

    @Says(promise = 12, value = "BAD: between 5 and 10 + the first FAULT; it changes nothing")
    private static void countBetweenRunsAndFaults() {
        for (int what = 6; what <= 10; what++) {
            int wanted = what;
            refused("count(" + what + ")", BAD, x -> x.count(wanted));
        }
    }

    @Says(promise = 12, value = "BAD: above 10 + the last FAULT; it changes nothing")
    private static void countBeyondTheLastFault() {
        for (int what : new int[] {17, 18, 20, 26, MOST}) {
            refused("count(" + what + ")", BAD, x -> x.count(what));
        }
    }
}
