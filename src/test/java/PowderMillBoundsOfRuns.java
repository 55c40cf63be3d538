import java.lang.annotation.Retention;
import java.lang.annotation.RetentionPolicy;
import java.lang.reflect.InvocationTargetException;
import java.lang.reflect.Method;
import java.util.ArrayList;
import java.util.Arrays;
import java.util.Comparator;
import java.util.List;

/** Promise 7: each sentence that names a boundary case of a RUN has a test of its own. The others: PowderMillBoundsOfCalls. */
public final class PowderMillBoundsOfRuns {
    private static final int SPENT = PowderMill.SPENT;
    private static final int LEAST = Integer.MIN_VALUE, MOST = Integer.MAX_VALUE;
    private static final int IN = 0, OUT = 1, GRIND = 2, CARRY = 3, SHARE = 4, WRITE = 5, QUIT = 6, SKIP = 7, AGAIN = 8;
    private static final int NONE = 1, DEEP = 2, SPARK = 3, SHORT = 4, ZERO = 5, ROW = 6;
    private static final int POWDER = 1, TIMES_IN = 3, SPARKS = 4, CAUGHT = 5, NOW = 6;

    /** What a test holds the class to, by the words of the document or by what follows from them, and the promise that it belongs to. */
    @Retention(RetentionPolicy.RUNTIME)
    private @interface Says {
        int promise() default 7;

        String value();
    }

    private static String test = "";
    private static int wrong = 0;

    public static void main(String[] args) throws IllegalAccessException {
        List<Method> tests = new ArrayList<>();
        for (Method m : PowderMillBoundsOfRuns.class.getDeclaredMethods()) {
            if (m.isAnnotationPresent(Says.class)) {
                tests.add(m);
            }
        }
        tests.sort(Comparator.comparing(Method::getName));
        for (Method m : tests) {
            Says says = m.getAnnotation(Says.class);
            test = "Promise " + says.promise() + ", " + m.getName() + " (\"" + says.value() + "\")";
            try {
                m.invoke(null);
            } catch (InvocationTargetException e) {
                wrong++;
                System.out.println(test + ": threw " + e.getCause());
            }
        }
        System.out.println(tests.size() + " boundary tests: " + (wrong == 0 ? "all answers are as due" : wrong + " answers are not as due"));
        if (wrong != 0) {
            System.exit(1);
        }
    }

    private static void due(String call, long got, long want) {
        if (got != want) {
            wrong++;
            System.out.println(test + ": " + call + " answered " + got + ", due is " + want);
        }
    }

    private static void dueHouse(PowderMill x, int k, int... want) {
        int[] told = new int[7];
        for (int what = 0; what < told.length; what++) {
            told[what] = x.house(k, what);
        }
        if (!Arrays.equals(told, want)) {
            wrong++;
            System.out.println(test + ": house " + k + "\n  is  " + Arrays.toString(told) + "\n  due " + Arrays.toString(want));
        }
    }

    /** The run did nothing to a HOUSE or a ROW. */
    private static void dueUntouched(PowderMill x) {
        for (int k = 0; k < 8; k++) {
            due("house(" + k + ", 1)", x.house(k, POWDER), 0);
            due("house(" + k + ", 4)", x.house(k, SPARKS), 0);
            due("row(" + k + ")", x.row(k), 0);
        }
        due("where()", x.where(), -1);
    }

    /** THE ORDER becomes these: an ACT and its a by turns. */
    private static void order(PowderMill x, int... actsAndNumbers) {
        x.clear();
        for (int i = 0; i < actsAndNumbers.length; i += 2) {
            x.step(actsAndNumbers[i], actsAndNumbers[i + 1]);
        }
    }

    private static int runOf(PowderMill x, int... actsAndNumbers) {
        order(x, actsAndNumbers);
        return x.run();
    }

    /** Eight HOUSES with 100 WALLS each; none is a REFUGE. */
    private static PowderMill eightHouses() {
        PowderMill x = new PowderMill();
        for (int k = 0; k < 8; k++) {
            x.build(k, 100, false);
        }
        return x;
    }

    /** HOUSE 0 with 10 WALLS, and the REFUGES 1 and 2 with 20 and 30; there is no other. */
    private static PowderMill twoRefuges() {
        PowderMill x = new PowderMill();
        x.build(0, 10, false);
        x.build(1, 20, true);
        x.build(2, 30, true);
        return x;
    }

    // ---- The RUN itself

    @Says("A RUN does the STEPS of THE ORDER: there are none")
    private static void runOfAnEmptyOrder() {
        PowderMill x = eightHouses();
        due("run()", x.run(), 0);
        due("begun()", x.begun(), 0);
        due("count(2)", x.count(2), 1);
        dueUntouched(x);
    }

    @Says("from the first one on, up to behind the last one: one STEP")
    private static void runOfOneStep() {
        PowderMill x = eightHouses();
        due("run()", runOf(x, WRITE, 3), 1);
        due("row(3)", x.row(3), -1);
    }

    @Says("from the first one on, up to behind the last one: 30 STEPS")
    private static void runOfThirtySteps() {
        PowderMill x = eightHouses();
        x.step(IN, 5);
        for (int i = 0; i < 28; i++) {
            x.step(GRIND, 1);
        }
        x.step(WRITE, 7);
        due("run()", x.run(), 30);
        due("house(5, 1)", x.house(5, POWDER), 28);
        due("row(7)", x.row(7), 28);
    }

    @Says("One is in THE YARD at first: whichever way the RUN ahead of it ended")
    private static void runStartsInTheYard() {
        int[][] ahead = {
            {IN, 1}, {IN, 1, QUIT, 0}, {IN, 0, WRITE, 8}, {IN, 0, IN, 1, WRITE, 8},
            {IN, 0, IN, 0, IN, 0, IN, 0, AGAIN, 3, OUT, 0, AGAIN, 3, OUT, 0, AGAIN, 3}
        };
        for (int[] first : ahead) {
            PowderMill x = twoRefuges();
            runOf(x, first);
            due("house(0, 6)", x.house(0, NOW), 0);
            due("house(1, 6)", x.house(1, NOW), 0);
            due("run()", runOf(x, WRITE, 2), 1);
            due("row(2)", x.row(2), -1);
            due("run() six deep", runOf(x, IN, 0, IN, 0, IN, 0, IN, 0, IN, 0, IN, 0), 6);
            due("run() that no refuge catches any more", runOf(x, WRITE, 8), -10 - ROW);
        }
    }

    @Says("HERE is the HOUSE that one went into last and is in still, AROUND it the one in which one was then (or THE YARD)")
    private static void runIsHereInTheLastOneNotLeft() {
        PowderMill x = eightHouses();
        due("run()", runOf(x, IN, 1, IN, 2, IN, 3, OUT, 0, GRIND, 9, CARRY, 4, OUT, 0, WRITE, 0, CARRY, 1, OUT, 0, WRITE, 1), 11);
        due("house(2, 1)", x.house(2, POWDER), 5);
        due("house(3, 1)", x.house(3, POWDER), 0);
        due("row(0)", x.row(0), 4);
        due("house(1, 1)", x.house(1, POWDER), 4);
        due("row(1)", x.row(1), -1);
    }

    @Says("One can be in one HOUSE several times, one within the other")
    private static void runIsInOneHouseSeveralTimes() {
        PowderMill x = eightHouses();
        due("run()", runOf(x, IN, 4, IN, 4, IN, 4, OUT, 0, GRIND, 2, OUT, 0, GRIND, 3, OUT, 0, GRIND, 4, WRITE, 0), 10);
        dueHouse(x, 4, 100, 5, 0, 3, 0, 0, 0);
        due("row(0)", x.row(0), -1);
    }

    @Says("-10 less the FAULT by which it ended: each of the six")
    private static void runTellsEachFault() {
        due("NONE", runOf(new PowderMill(), IN, 0), -11);
        due("DEEP", runOf(eightHouses(), IN, 0, IN, 0, IN, 0, IN, 0, IN, 0, IN, 0, IN, 0), -12);
        due("SPARK", runOf(eightHouses(), IN, 0, GRIND, 999, GRIND, 2), -13);
        due("SHORT", runOf(eightHouses(), IN, 0, IN, 1, CARRY, 1), -14);
        due("ZERO", runOf(eightHouses(), IN, 0, SHARE, 0), -15);
        due("ROW", runOf(eightHouses(), WRITE, 8), -16);
    }

    // ---- 0 IN

    @Says("0 IN: into HOUSE a modulo 8 (\"modulo\" is never below 0)")
    private static void inWrapsAroundAtEight() {
        int[][] wanted = {{0, 0}, {7, 7}, {8, 0}, {9, 1}, {15, 7}, {16, 0}, {-1, 7}, {-7, 1}, {-8, 0}, {-9, 7}, {LEAST, 0}, {LEAST + 1, 1}, {MOST, 7}};
        for (int[] w : wanted) {
            PowderMill x = eightHouses();
            due("run() of IN " + w[0], runOf(x, IN, w[0]), 1);
            for (int k = 0; k < 8; k++) {
                due("house(" + k + ", 3) behind IN " + w[0], x.house(k, TIMES_IN), k == w[1] ? 1 : 0);
            }
        }
    }

    @Says("1 NONE: there is no such HOUSE: each place without one")
    private static void inWhereNoneStands() {
        for (int k = 0; k < 8; k++) {
            PowderMill x = eightHouses();
            x.raze(k);
            due("run() of IN " + k, runOf(x, IN, k, WRITE, 0), -10 - NONE);
            due("begun()", x.begun(), 1);
            due("row(0)", x.row(0), 0);
            due("run() of IN the next one", runOf(x, IN, k + 1), 1);
        }
    }

    @Says("2 DEEP: one is in six: the sixth is not, the seventh is")
    private static void inTheSixthAndTheSeventh() {
        PowderMill x = eightHouses();
        due("run() with six", runOf(x, IN, 0, IN, 1, IN, 2, IN, 3, IN, 4, IN, 5, WRITE, 0), 7);
        due("row(0)", x.row(0), 0);
        due("where()", x.where(), -1);
        due("run() with seven", runOf(x, IN, 0, IN, 1, IN, 2, IN, 3, IN, 4, IN, 5, IN, 6, WRITE, 0), -10 - DEEP);
        due("where()", x.where(), 6);
        due("begun()", x.begun(), 7);
    }

    @Says("2 DEEP: one is in six: in one HOUSE six times")
    private static void inOneHouseTheSeventhTime() {
        PowderMill x = eightHouses();
        due("run() with six", runOf(x, IN, 3, IN, 3, IN, 3, IN, 3, IN, 3, IN, 3), 6);
        due("run() with seven", runOf(x, IN, 3, IN, 3, IN, 3, IN, 3, IN, 3, IN, 3, IN, 3), -10 - DEEP);
        dueHouse(x, 3, 100, 0, 0, 12, 0, 0, 0);
    }

    @Says("NONE, DEEP (of both: DEEP)")
    private static void inOfBothDeep() {
        PowderMill x = eightHouses();
        x.raze(7);
        due("run()", runOf(x, IN, 0, IN, 0, IN, 0, IN, 0, IN, 0, IN, 0, IN, 7), -10 - DEEP);
        due("count(11)", x.count(10 + NONE), 0);
        due("count(12)", x.count(10 + DEEP), 1);
        due("run() with five", runOf(x, IN, 0, IN, 0, IN, 0, IN, 0, IN, 0, IN, 7), -10 - NONE);
    }

    @Says("it counts as IN: one that meets a FAULT does not")
    private static void inThatMeetsAFaultDoesNotCount() {
        PowderMill x = eightHouses();
        runOf(x, IN, 0, IN, 0, IN, 0, IN, 0, IN, 0, IN, 0, IN, 6);
        due("house(0, 3)", x.house(0, TIMES_IN), 6);
        due("house(6, 3)", x.house(6, TIMES_IN), 0);
        due("house(6, 6)", x.house(6, NOW), 0);
    }

    @Says("2 DEEP: one is in six: one has left one of them")
    private static void inBehindOutMakesRoom() {
        PowderMill x = eightHouses();
        due("run()", runOf(x, IN, 0, IN, 0, IN, 0, IN, 0, IN, 0, IN, 0, OUT, 0, IN, 6), 8);
        due("run()", runOf(x, IN, 0, IN, 0, IN, 0, IN, 0, IN, 0, IN, 0, OUT, 0, IN, 6, IN, 6), -10 - DEEP);
        due("house(6, 3)", x.house(6, TIMES_IN), 2);
    }

    @Says("2 DEEP: one is in six: a REFUGE among them caught it")
    private static void inBehindACatchMakesRoom() {
        PowderMill x = twoRefuges();
        due("run()", runOf(x, IN, 0, IN, 0, IN, 0, IN, 0, IN, 1, IN, 0, IN, 0, IN, 0, IN, 0, IN, 0), -10 - DEEP);
        due("where()", x.where(), 9);
        due("begun()", x.begun(), 10);
        dueHouse(x, 0, 10, 0, 0, 7, 0, 0, 0);
        dueHouse(x, 1, 20, 0, 1, 1, 0, 1, 0);
    }

    // ---- 1 OUT

    @Says("1 OUT: out of HERE. In THE YARD: nothing")
    private static void outInTheYard() {
        PowderMill x = eightHouses();
        due("run()", runOf(x, OUT, 0, OUT, 5, OUT, -1), 3);
        dueUntouched(x);
        due("run() more OUT than IN", runOf(x, IN, 0, OUT, 0, OUT, 0, OUT, 0, IN, 1, WRITE, 0, OUT, 0, WRITE, 1), 8);
        due("row(0)", x.row(0), 0);
        due("row(1)", x.row(1), -1);
        due("house(0, 6)", x.house(0, NOW), 0);
    }

    @Says("1 OUT: out of HERE: out of six, one by one, whatever its a")
    private static void outOfSix() {
        PowderMill x = eightHouses();
        due("run()", runOf(x, IN, 0, IN, 1, IN, 2, IN, 3, IN, 4, IN, 5, OUT, LEAST, OUT, MOST, OUT, 3, OUT, -3, OUT, 8, GRIND, 1, OUT, 0, WRITE, 0), 14);
        due("house(0, 1)", x.house(0, POWDER), 1);
        due("row(0)", x.row(0), -1);
    }

    // ---- 2 GRIND

    @Says("2 GRIND: POWDER HERE becomes a modulo 1000 more (\"modulo\" is never below 0)")
    private static void grindWrapsAroundAtAThousand() {
        int[][] wanted = {{0, 0}, {1, 1}, {999, 999}, {1000, 0}, {1001, 1}, {1999, 999}, {-1, 999}, {-999, 1}, {-1000, 0}, {-1001, 999},
            {LEAST, 352}, {LEAST + 1, 353}, {MOST, 647}};
        for (int[] w : wanted) {
            PowderMill x = eightHouses();
            due("run() of GRIND " + w[0], runOf(x, IN, 2, GRIND, w[0]), 2);
            due("house(2, 1) behind GRIND " + w[0], x.house(2, POWDER), w[1]);
        }
    }

    @Says("if it is above 10 times its WALLS then, it has a SPARK: exactly 10 times is not above")
    private static void grindUpToTenTimesTheWalls() {
        for (int walls : new int[] {1, 2, 50, 99}) {
            PowderMill x = new PowderMill();
            x.build(0, walls, false);
            due("run()", runOf(x, IN, 0, GRIND, 10 * walls - 1, GRIND, 1, WRITE, 0), 4);
            dueHouse(x, 0, walls, 10 * walls, 0, 1, 0, 0, 0);
            due("row(0)", x.row(0), 10 * walls);
        }
        PowderMill x = eightHouses();
        due("run() with the most walls", runOf(x, IN, 0, GRIND, 999, GRIND, 1, GRIND, 0), 4);
        dueHouse(x, 0, 100, 1000, 0, 1, 0, 0, 0);
    }

    @Says("it has a SPARK: POWDER is 0, and FAULT SPARK: one above 10 times the WALLS")
    private static void grindOneAboveTenTimesTheWalls() {
        for (int walls : new int[] {1, 2, 50, 99, 100}) {
            PowderMill x = new PowderMill();
            x.build(0, walls, false);
            due("run()", runOf(x, IN, 0, GRIND, 10 * walls - 1, GRIND, 2, WRITE, 0), -10 - SPARK);
            dueHouse(x, 0, walls, 0, 0, 1, 1, 0, 0);
            due("row(0)", x.row(0), 0);
            due("where()", x.where(), 2);
        }
    }

    @Says("it has a SPARK: POWDER is 0: by far above, and once more")
    private static void grindFarAboveTenTimesTheWalls() {
        PowderMill x = new PowderMill();
        x.build(0, 1, true);
        due("run()", runOf(x, IN, 0, GRIND, 999, IN, 0, GRIND, 11, IN, 0, GRIND, 10), 6);
        dueHouse(x, 0, 1, 10, 1, 3, 2, 2, 0);
    }

    @Says("2 GRIND: In THE YARD: nothing")
    private static void grindInTheYard() {
        PowderMill x = eightHouses();
        due("run()", runOf(x, GRIND, 999, GRIND, 999, IN, 0, OUT, 0, GRIND, 999), 5);
        dueUntouched(x);
    }

    // ---- 3 CARRY

    @Says("3 CARRY: a modulo 1000 of the POWDER goes from HERE to AROUND (\"modulo\" is never below 0)")
    private static void carryWrapsAroundAtAThousand() {
        int[][] wanted = {{0, 0}, {1, 1}, {999, 999}, {1000, 0}, {1001, 1}, {-1, 999}, {-999, 1}, {-1000, 0}, {LEAST, 352}, {MOST, 647}};
        for (int[] w : wanted) {
            PowderMill x = eightHouses();
            due("run() with CARRY " + w[0], runOf(x, IN, 0, IN, 1, GRIND, 999, CARRY, w[0]), 4);
            due("house(0, 1) behind CARRY " + w[0], x.house(0, POWDER), w[1]);
            due("house(1, 1) behind CARRY " + w[0], x.house(1, POWDER), 999 - w[1]);
        }
    }

    @Says("goes from HERE to AROUND: from the sixth HOUSE outwards, one by one")
    private static void carryFromTheSixthOutwards() {
        PowderMill x = eightHouses();
        due("run()", runOf(x, IN, 0, IN, 1, IN, 2, IN, 3, IN, 4, IN, 5, GRIND, 20, CARRY, 15, OUT, 0, CARRY, 10, OUT, 0, CARRY, 6, OUT, 0, CARRY, 3,
            OUT, 0, CARRY, 1, OUT, 0, CARRY, 1), 18);
        int[] powder = {1, 2, 3, 4, 5, 5};
        for (int k = 0; k < powder.length; k++) {
            due("house(" + k + ", 1)", x.house(k, POWDER), powder[k]);
        }
    }

    @Says("SHORT: there is not so much: exactly so much is there")
    private static void carryAllThereIs() {
        PowderMill x = eightHouses();
        due("run()", runOf(x, IN, 0, IN, 1, GRIND, 5, CARRY, 5), 4);
        due("house(0, 1)", x.house(0, POWDER), 5);
        due("house(1, 1)", x.house(1, POWDER), 0);
        due("run() with none of none", runOf(x, IN, 0, IN, 1, CARRY, 0), 3);
        due("house(0, 1)", x.house(0, POWDER), 5);
    }

    @Says("SHORT: there is not so much: one more than there is; nothing goes")
    private static void carryOneMoreThanThereIs() {
        PowderMill x = eightHouses();
        due("run()", runOf(x, IN, 0, IN, 1, GRIND, 5, CARRY, 6), -10 - SHORT);
        due("where()", x.where(), 3);
        due("house(0, 1)", x.house(0, POWDER), 0);
        due("house(1, 1)", x.house(1, POWDER), 5);
        due("run() with one of none", runOf(x, IN, 1, IN, 2, CARRY, 1), -10 - SHORT);
        due("house(1, 1)", x.house(1, POWDER), 5);
    }

    @Says("SHORT: not so much HERE, though it would be too much AROUND")
    private static void carryShortAheadOfSpark() {
        PowderMill x = new PowderMill();
        x.build(0, 1, false);
        x.build(1, 100, false);
        due("run()", runOf(x, IN, 0, GRIND, 10, IN, 1, GRIND, 20, CARRY, 21), -10 - SHORT);
        dueHouse(x, 0, 1, 10, 0, 1, 0, 0, 0);
        dueHouse(x, 1, 100, 20, 0, 1, 0, 0, 0);
    }

    @Says("comes AROUND as by GRIND: exactly 10 times its WALLS")
    private static void carryUpToTenTimesTheWalls() {
        PowderMill x = new PowderMill();
        x.build(0, 1, false);
        x.build(1, 100, false);
        due("run()", runOf(x, IN, 0, GRIND, 4, IN, 1, GRIND, 20, CARRY, 6), 5);
        dueHouse(x, 0, 1, 10, 0, 1, 0, 0, 0);
        dueHouse(x, 1, 100, 14, 0, 1, 0, 0, 0);
    }

    @Says("(the SPARK is AROUND's; what was taken away stays gone; the FAULT is that of this STEP): one above 10 times its WALLS")
    private static void carryOneAboveTenTimesTheWalls() {
        PowderMill x = new PowderMill();
        x.build(0, 1, false);
        x.build(1, 100, false);
        due("run()", runOf(x, IN, 0, GRIND, 4, IN, 1, GRIND, 20, CARRY, 7, OUT, 0), -10 - SPARK);
        due("where()", x.where(), 4);
        due("begun()", x.begun(), 5);
        dueHouse(x, 0, 1, 0, 0, 1, 1, 0, 0);
        dueHouse(x, 1, 100, 13, 0, 1, 0, 0, 0);
    }

    @Says("(the SPARK is AROUND's; the FAULT is that of this STEP): HERE is the first REFUGE")
    private static void carrySparkIsCaughtHereFirst() {
        PowderMill x = twoRefuges();
        due("run()", runOf(x, IN, 1, IN, 2, GRIND, 250, CARRY, 201, WRITE, 0, GRIND, 6), 6);
        dueHouse(x, 1, 20, 6, 1, 1, 1, 0, 0);
        dueHouse(x, 2, 30, 49, 1, 1, 0, 1, 0);
    }

    @Says("(Both may be one HOUSE.): all of its POWDER, and 10 times its WALLS")
    private static void carryWithinOneHouse() {
        PowderMill x = twoRefuges();
        due("run()", runOf(x, IN, 0, IN, 0, GRIND, 100, CARRY, 100, CARRY, 1, WRITE, 0), 6);
        dueHouse(x, 0, 10, 100, 0, 2, 0, 0, 0);
        due("row(0)", x.row(0), 100);
    }

    @Says("(Both may be one HOUSE.): one more than its POWDER")
    private static void carryTooMuchWithinOneHouse() {
        PowderMill x = twoRefuges();
        due("run()", runOf(x, IN, 0, IN, 0, GRIND, 60, CARRY, 61), -10 - SHORT);
        dueHouse(x, 0, 10, 60, 0, 2, 0, 0, 0);
    }

    @Says("3 CARRY: In THE YARD: nothing")
    private static void carryInTheYard() {
        PowderMill x = eightHouses();
        due("run()", runOf(x, CARRY, 999, CARRY, 0, IN, 0, OUT, 0, CARRY, 1), 5);
        dueUntouched(x);
    }

    @Says("3 CARRY: with THE YARD AROUND: nothing")
    private static void carryWithTheYardAround() {
        PowderMill x = eightHouses();
        due("run() with none", runOf(x, IN, 0, CARRY, 1), 2);
        dueUntouched(x);
        due("run() with enough", runOf(x, IN, 0, GRIND, 9, CARRY, 9, CARRY, 10, IN, 1, OUT, 0, CARRY, 3, WRITE, 0), 8);
        due("house(0, 1)", x.house(0, POWDER), 9);
        due("row(0)", x.row(0), 9);
    }

    // ---- 4 SHARE

    @Says("4 SHARE: POWDER HERE becomes POWDER / (a modulo 10), cut (\"modulo\" is never below 0)")
    private static void shareWrapsAroundAtTen() {
        int[][] wanted = {{1, 1}, {2, 2}, {9, 9}, {11, 1}, {19, 9}, {-1, 9}, {-8, 2}, {-9, 1}, {-11, 9}, {LEAST, 2}, {LEAST + 1, 3}, {MOST, 7}};
        for (int[] w : wanted) {
            PowderMill x = eightHouses();
            due("run() with SHARE " + w[0], runOf(x, IN, 0, GRIND, 997, SHARE, w[0]), 3);
            due("house(0, 1) behind SHARE " + w[0], x.house(0, POWDER), 997 / w[1]);
        }
    }

    @Says("4 SHARE: cut: less than one each, and none")
    private static void shareTooLittle() {
        PowderMill x = eightHouses();
        due("run() 8 / 9", runOf(x, IN, 0, GRIND, 8, SHARE, 9), 3);
        due("house(0, 1)", x.house(0, POWDER), 0);
        due("run() 0 / 1 and 0 / 9", runOf(x, IN, 0, SHARE, 1, SHARE, 9, WRITE, 0), 4);
        due("house(0, 1)", x.house(0, POWDER), 0);
        due("run() 9 / 9", runOf(x, IN, 0, GRIND, 9, SHARE, 9), 3);
        due("house(0, 1)", x.house(0, POWDER), 1);
    }

    @Says("ZERO: that is 0: POWDER stays")
    private static void shareByZero() {
        for (int a : new int[] {0, 10, 20, 1000, -10, -20, LEAST + 8, MOST - 7}) {
            PowderMill x = eightHouses();
            due("run() with SHARE " + a, runOf(x, IN, 0, GRIND, 5, SHARE, a, GRIND, 1), -10 - ZERO);
            due("house(0, 1)", x.house(0, POWDER), 5);
            due("where()", x.where(), 2);
            due("run() without POWDER", runOf(x, IN, 1, SHARE, a), -10 - ZERO);
        }
    }

    @Says("4 SHARE: In THE YARD: nothing")
    private static void shareInTheYard() {
        PowderMill x = eightHouses();
        due("run()", runOf(x, SHARE, 0, SHARE, 2, IN, 0, OUT, 0, SHARE, 10), 5);
        dueUntouched(x);
    }

    // ---- 5 WRITE

    @Says("5 WRITE: ROW a of THE LEDGER becomes POWDER HERE: the first and the last ROW")
    private static void writeTheFirstAndTheLastRow() {
        PowderMill x = eightHouses();
        due("run()", runOf(x, IN, 0, GRIND, 7, WRITE, 0, GRIND, 1, WRITE, 7), 5);
        due("row(0)", x.row(0), 7);
        due("row(7)", x.row(7), 8);
        for (int i = 1; i < 7; i++) {
            due("row(" + i + ")", x.row(i), 0);
        }
    }

    @Says("5 WRITE: POWDER HERE: none, and the most there can be")
    private static void writeNoneAndTheMost() {
        PowderMill x = eightHouses();
        due("run()", runOf(x, WRITE, 3, IN, 0, GRIND, 999, GRIND, 1, WRITE, 2, IN, 1, WRITE, 3), 7);
        due("row(2)", x.row(2), 1000);
        due("row(3)", x.row(3), 0);
    }

    @Says("(THE YARD: -1)")
    private static void writeInTheYard() {
        PowderMill x = eightHouses();
        due("run()", runOf(x, WRITE, 0, IN, 0, GRIND, 5, WRITE, 7, OUT, 0, WRITE, 7), 6);
        due("row(0)", x.row(0), -1);
        due("row(7)", x.row(7), -1);
    }

    @Says("ROW: there is none such: too small; no modulo")
    private static void writeBelowTheFirstRow() {
        for (int a : new int[] {-1, -8, -7, LEAST}) {
            writeNowhere(a);
        }
    }

    @Says("ROW: there is none such: too large; no modulo")
    private static void writeBeyondTheLastRow() {
        for (int a : new int[] {8, 9, 16, 1000, MOST}) {
            writeNowhere(a);
        }
    }

    private static void writeNowhere(int a) {
        PowderMill x = eightHouses();
        due("run() with WRITE " + a, runOf(x, IN, 0, GRIND, 5, WRITE, a, GRIND, 1), -10 - ROW);
        due("where()", x.where(), 2);
        due("house(0, 1)", x.house(0, POWDER), 5);
        due("run() with WRITE " + a + " in THE YARD", runOf(x, WRITE, a, OUT, 0), -10 - ROW);
        due("begun()", x.begun(), 1);
        for (int i = 0; i < 8; i++) {
            due("row(" + i + ")", x.row(i), 0);
        }
    }

    // ---- 6 QUIT

    @Says("6 QUIT: the RUN is at its end: at the first STEP, at the last, whatever its a")
    private static void quitAtTheFirstAndTheLastStep() {
        for (int a : new int[] {LEAST, -1, 0, 3, MOST}) {
            PowderMill x = eightHouses();
            due("run() with QUIT first", runOf(x, QUIT, a, WRITE, 0), 1);
            due("run() with QUIT last", runOf(x, IN, 0, QUIT, a), 2);
            due("count(5)", x.count(5), 2);
            dueUntouched(x);
        }
    }

    @Says("6 QUIT: the RUN is at its end: six deep, in a REFUGE")
    private static void quitSixDeep() {
        PowderMill x = twoRefuges();
        due("run()", runOf(x, IN, 0, IN, 1, IN, 0, IN, 1, IN, 0, IN, 2, QUIT, 0, WRITE, 0), 7);
        dueHouse(x, 0, 10, 0, 0, 3, 0, 0, 0);
        dueHouse(x, 1, 20, 0, 1, 2, 0, 0, 0);
        dueHouse(x, 2, 30, 0, 1, 1, 0, 0, 0);
        due("row(0)", x.row(0), 0);
        due("where()", x.where(), -1);
    }

    // ---- 7 SKIP

    @Says("7 SKIP: the next a modulo 4 STEPS are passed over (\"modulo\" is never below 0)")
    private static void skipWrapsAroundAtFour() {
        int[][] wanted = {{0, 0}, {1, 1}, {2, 2}, {3, 3}, {4, 0}, {5, 1}, {7, 3}, {-1, 3}, {-2, 2}, {-3, 1}, {-4, 0}, {-5, 3}, {LEAST, 0}, {LEAST + 1, 1}, {MOST, 3}};
        for (int[] w : wanted) {
            PowderMill x = eightHouses();
            due("run() with SKIP " + w[0], runOf(x, SKIP, w[0], WRITE, 0, WRITE, 1, WRITE, 2, WRITE, 3), 5 - w[1]);
            for (int i = 0; i < 4; i++) {
                due("row(" + i + ") behind SKIP " + w[0], x.row(i), i < w[1] ? 0 : -1);
            }
        }
    }

    @Says("STEPS are passed over: just up to behind the last one")
    private static void skipToTheEnd() {
        for (int a = 1; a <= 3; a++) {
            PowderMill x = eightHouses();
            order(x, SKIP, a);
            for (int i = 0; i < a; i++) {
                x.step(WRITE, i);
            }
            due("run()", x.run(), 1);
            dueUntouched(x);
        }
    }

    @Says("STEPS are passed over: there are fewer left, or none")
    private static void skipBeyondTheEnd() {
        PowderMill x = eightHouses();
        due("run() with one left of three", runOf(x, SKIP, 3, WRITE, 0), 1);
        due("run() with two left of three", runOf(x, SKIP, 3, WRITE, 0, WRITE, 1), 1);
        due("run() with none left", runOf(x, IN, 0, SKIP, 3), 2);
        dueUntouched(x);
    }

    @Says("STEPS are passed over: SKIP as the 30th STEP, and behind it nothing of an ORDER cleared")
    private static void skipInAFullOrder() {
        PowderMill x = eightHouses();
        for (int i = 0; i < 30; i++) {
            x.step(SKIP, i == 29 ? 3 : 0);
        }
        due("run()", x.run(), 30);
        for (int i = 0; i < 30; i++) {
            x.alter(i, WRITE, 0);
        }
        due("run() of a shorter order", runOf(x, SKIP, 1, SKIP, 1), 1);
        due("row(0)", x.row(0), 0);
    }

    @Says("STEPS are passed over: what would end the RUN or break among them does not")
    private static void skipPassesOverQuitAndFaults() {
        PowderMill x = new PowderMill();
        due("run()", runOf(x, SKIP, 3, QUIT, 0, IN, 0, WRITE, 8, WRITE, 0), 2);
        due("row(0)", x.row(0), -1);
        due("count(5)", x.count(5), 0);
        due("where()", x.where(), -1);
    }

    // ---- 8 AGAIN

    @Says("8 AGAIN: if fewer than a modulo 4 AGAINS went back (\"modulo\" is never below 0)")
    private static void againWrapsAroundAtFour() {
        int[][] wanted = {{0, 0}, {1, 1}, {2, 2}, {3, 3}, {4, 0}, {5, 1}, {7, 3}, {-1, 3}, {-2, 2}, {-3, 1}, {-4, 0}, {-5, 3}, {LEAST, 0}, {LEAST + 1, 1}, {MOST, 3}};
        for (int[] w : wanted) {
            PowderMill x = eightHouses();
            due("run() with AGAIN " + w[0], runOf(x, IN, 0, GRIND, 1, AGAIN, w[0], WRITE, 0), 2 + 2 * (1 + w[1]));
            due("row(0) behind AGAIN " + w[0], x.row(0), 1 + w[1]);
            due("house(0, 3)", x.house(0, TIMES_IN), 1);
        }
    }

    @Says("it goes back: the next STEP is the one behind that IN: which is this AGAIN")
    private static void againRightBehindTheIn() {
        PowderMill x = eightHouses();
        due("run()", runOf(x, IN, 0, AGAIN, 3), 5);
        due("run() far from the first STEP", runOf(x, OUT, 0, WRITE, 0, OUT, 0, IN, 0, AGAIN, 3, WRITE, 1), 9);
    }

    @Says("8 AGAIN: In THE YARD: nothing")
    private static void againInTheYard() {
        PowderMill x = eightHouses();
        due("run()", runOf(x, AGAIN, 3, GRIND, 5, AGAIN, 3), 3);
        due("run() behind OUT", runOf(x, IN, 0, OUT, 0, AGAIN, 3), 3);
        dueUntouched(x);
    }

    @Says("AGAINS that were begun HERE went back: two AGAINS of one stay count together")
    private static void againTwoOfOneStay() {
        PowderMill x = eightHouses();
        due("run() 2, then 1", runOf(x, IN, 0, AGAIN, 2, AGAIN, 1), 5);
        due("run() 1, then 2", runOf(x, IN, 0, AGAIN, 1, AGAIN, 2), 6);
        due("run() 3, then 3", runOf(x, IN, 0, AGAIN, 3, AGAIN, 3), 6);
    }

    @Says("those of other stays, further in, do not count")
    private static void againOfAStayFurtherIn() {
        PowderMill x = eightHouses();
        due("run()", runOf(x, IN, 0, IN, 1, AGAIN, 3, OUT, 0, GRIND, 1, AGAIN, 1), 1 + 2 * 8);
        due("house(0, 1)", x.house(0, POWDER), 2);
        due("house(1, 3)", x.house(1, TIMES_IN), 2);
    }

    @Says("those of other stays, of the same HOUSE within it, do not count")
    private static void againOfTheSameHouseFurtherIn() {
        PowderMill x = eightHouses();
        due("run()", runOf(x, IN, 0, IN, 0, AGAIN, 3, OUT, 0, GRIND, 1, AGAIN, 1), 1 + 2 * 8);
        due("house(0, 1)", x.house(0, POWDER), 2);
        due("house(0, 3)", x.house(0, TIMES_IN), 3);
    }

    @Says("those of other stays, further out, do not count")
    private static void againOfAStayFurtherOut() {
        PowderMill x = eightHouses();
        due("run()", runOf(x, IN, 0, AGAIN, 3, IN, 0, GRIND, 1, AGAIN, 1), 5 + 1 + 2 * 2);
        due("house(0, 1)", x.house(0, POWDER), 2);
    }

    @Says("since one came into HERE by the IN of this stay: a stay of the same HOUSE behind another")
    private static void againOfAStayThatIsOver() {
        PowderMill x = eightHouses();
        due("run()", runOf(x, IN, 0, AGAIN, 3, OUT, 0, IN, 0, GRIND, 1, AGAIN, 3), 6 + 1 + 4 * 2);
        due("house(0, 1)", x.house(0, POWDER), 4);
    }

    @Says("since one came into HERE by the IN of this stay: in the next RUN none went back")
    private static void againInTheNextRun() {
        PowderMill x = eightHouses();
        order(x, IN, 0, AGAIN, 2);
        due("run()", x.run(), 4);
        due("run() again", x.run(), 4);
    }

    @Says("the next STEP is the one behind that IN: the outer one's, when what was further in was caught")
    private static void againBehindACatch() {
        PowderMill x = twoRefuges();
        due("run()", runOf(x, IN, 0, GRIND, 1, IN, 1, AGAIN, 1, WRITE, 8, AGAIN, 1), 1 + 2 * 6);
        dueHouse(x, 0, 10, 2, 0, 1, 0, 0, 0);
        dueHouse(x, 1, 20, 0, 1, 2, 0, 2, 0);
    }

    @Says("In THE YARD, or else: nothing: behind a catch of all")
    private static void againBehindACatchInTheYard() {
        PowderMill x = twoRefuges();
        due("run()", runOf(x, IN, 1, WRITE, 8, AGAIN, 3, WRITE, 0), 4);
        due("row(0)", x.row(0), -1);
        due("house(1, 3)", x.house(1, TIMES_IN), 1);
    }

    // ---- A FAULT of a STEP

    @Says("If there is none, the RUN is at its end by that FAULT, and one is out of all: in THE YARD")
    private static void faultInTheYard() {
        PowderMill x = twoRefuges();
        due("run()", runOf(x, IN, 1, OUT, 0, WRITE, 8, WRITE, 0), -10 - ROW);
        due("begun()", x.begun(), 3);
        due("house(1, 5)", x.house(1, CAUGHT), 0);
        due("row(0)", x.row(0), 0);
    }

    @Says("If there is none, the RUN is at its end by that FAULT, and one is out of all: six deep")
    private static void faultSixDeepWithoutARefuge() {
        PowderMill x = twoRefuges();
        due("run()", runOf(x, IN, 0, IN, 0, IN, 0, IN, 0, IN, 0, IN, 0, SHARE, 0, WRITE, 0), -10 - ZERO);
        dueHouse(x, 0, 10, 0, 0, 6, 0, 0, 0);
        due("row(0)", x.row(0), 0);
    }

    @Says("HERE first: the REFUGE that one is in")
    private static void faultIsCaughtHere() {
        PowderMill x = twoRefuges();
        due("run()", runOf(x, IN, 2, IN, 1, WRITE, 8, GRIND, 3), 4);
        dueHouse(x, 1, 20, 0, 1, 1, 0, 1, 0);
        dueHouse(x, 2, 30, 3, 1, 1, 0, 0, 0);
    }

    @Says("then outwards: the REFUGE is the outermost of six")
    private static void faultIsCaughtFarthestOut() {
        PowderMill x = twoRefuges();
        due("run()", runOf(x, IN, 1, IN, 0, IN, 0, IN, 0, IN, 0, IN, 0, WRITE, 8, WRITE, 0), 8);
        dueHouse(x, 1, 20, 0, 1, 1, 0, 1, 0);
        dueHouse(x, 0, 10, 0, 0, 5, 0, 0, 0);
        due("row(0)", x.row(0), -1);
    }

    @Says("the first REFUGE CAUGHT it: of two the inner one, and it alone")
    private static void faultIsCaughtByTheInnerOfTwo() {
        PowderMill x = twoRefuges();
        due("run()", runOf(x, IN, 2, IN, 1, IN, 0, WRITE, 8, GRIND, 4), 5);
        dueHouse(x, 1, 20, 0, 1, 1, 0, 1, 0);
        dueHouse(x, 2, 30, 4, 1, 1, 0, 0, 0);
        due("run() with two FAULTS", runOf(x, IN, 2, IN, 1, IN, 0, WRITE, 8, WRITE, 8, WRITE, 0), 6);
        due("house(1, 5)", x.house(1, CAUGHT), 2);
        due("house(2, 5)", x.house(2, CAUGHT), 1);
        due("row(0)", x.row(0), -1);
    }

    @Says("one is out of that one and of all within it: of one HOUSE in which one is several times")
    private static void faultIsCaughtByTheInnerStay() {
        PowderMill x = twoRefuges();
        due("run()", runOf(x, IN, 1, IN, 1, IN, 1, WRITE, 8, WRITE, 8, GRIND, 5, WRITE, 8, WRITE, 0), 8);
        dueHouse(x, 1, 20, 5, 1, 3, 0, 3, 0);
        due("row(0)", x.row(0), -1);
        due("run() with one more", runOf(x, IN, 1, IN, 1, WRITE, 8, WRITE, 8, WRITE, 8), -10 - ROW);
    }

    @Says("and the next STEP is done: there is none")
    private static void faultOfTheLastStepIsCaught() {
        PowderMill x = twoRefuges();
        due("run()", runOf(x, IN, 1, WRITE, 8), 2);
        due("count(3)", x.count(3), 0);
        due("where()", x.where(), 1);
    }

    @Says("the HOUSES in which one is: one that one has left, or does not come into, is none of them")
    private static void faultIsNotCaughtByAHouseOneIsNotIn() {
        PowderMill x = twoRefuges();
        due("run() with one left", runOf(x, IN, 0, IN, 1, OUT, 0, SHARE, 0), -10 - ZERO);
        due("run() with one too deep", runOf(x, IN, 0, IN, 0, IN, 0, IN, 0, IN, 0, IN, 0, IN, 1), -10 - DEEP);
        due("house(1, 5)", x.house(1, CAUGHT), 0);
    }

    @Says("A FAULT of a STEP: each of the six is caught")
    private static void faultOfEachKindIsCaught() {
        int[][] breaking = {{IN, 7}, {IN, 0, IN, 0, IN, 0, IN, 0, IN, 0, IN, 0}, {GRIND, 201}, {IN, 0, CARRY, 1}, {SHARE, 0}, {WRITE, -1}};
        for (int f = NONE; f <= ROW; f++) {
            PowderMill x = twoRefuges();
            x.step(IN, 1);
            for (int i = 0; i < breaking[f - 1].length; i += 2) {
                x.step(breaking[f - 1][i], breaking[f - 1][i + 1]);
            }
            x.step(WRITE, 3);
            due("run() with FAULT " + f, x.run(), x.count(1));
            due("house(1, 5)", x.house(1, CAUGHT), 1);
            due("row(3)", x.row(3), -1);
            due("count(" + (10 + f) + ")", x.count(10 + f), 1);
            due("where()", x.where(), breaking[f - 1].length / 2);
        }
    }

    // ---- SPENT

    /** 22 STEPS of which a RUN begins 79: three, and 19 that an AGAIN has done four times. One is in HOUSE 0 then. */
    private static PowderMill seventyNineBegun() {
        PowderMill x = twoRefuges();
        order(x, OUT, 0, OUT, 0, IN, 0);
        for (int i = 0; i < 18; i++) {
            x.step(GRIND, 0);
        }
        x.step(AGAIN, 3);
        return x;
    }

    private static void dueSpent(PowderMill x) {
        due("run()", x.run(), SPENT);
        due("begun()", x.begun(), 80);
        due("count(2)", x.count(2), 1);
        due("count(3)", x.count(3), 0);
        due("count(4)", x.count(4), 1);
        due("count(5)", x.count(5), 0);
        due("house(0, 6)", x.house(0, NOW), 0);
    }

    @Says("When 80 were begun, and one more would be, the RUN is SPENT: 79 and 80 are not too many")
    private static void spentNotWith79Or80() {
        PowderMill x = seventyNineBegun();
        due("run() with 79", x.run(), 79);
        x.step(WRITE, 0);
        due("run() with 80", x.run(), 80);
        due("begun()", x.begun(), 80);
        due("row(0)", x.row(0), 0);
        due("count(4)", x.count(4), 0);
    }

    @Says("When 80 were begun, and one more would be, the RUN is SPENT: the 81st is not done")
    private static void spentWith81() {
        PowderMill x = seventyNineBegun();
        x.step(OUT, 0);
        x.step(WRITE, 0);
        dueSpent(x);
        due("row(0)", x.row(0), 0);
        due("house(0, 3)", x.house(0, TIMES_IN), 1);
    }

    @Says("one more would be: the 81st would QUIT")
    private static void spentAheadOfQuit() {
        PowderMill x = seventyNineBegun();
        x.step(OUT, 0);
        x.step(QUIT, 0);
        dueSpent(x);
    }

    @Says("one more would be: the 81st would meet a FAULT")
    private static void spentAheadOfAFault() {
        PowderMill x = seventyNineBegun();
        x.step(OUT, 0);
        x.step(WRITE, 8);
        dueSpent(x);
        due("where()", x.where(), -1);
        due("count(16)", x.count(10 + ROW), 0);
    }

    @Says("When 80 were begun: the 80th QUITS")
    private static void spentNotWhenThe80thQuits() {
        PowderMill x = seventyNineBegun();
        x.step(QUIT, 0);
        x.step(OUT, 0);
        due("run()", x.run(), 80);
        due("count(4)", x.count(4), 0);
        due("count(5)", x.count(5), 1);
    }

    @Says("When 80 were begun: the 80th meets a FAULT that none CAUGHT")
    private static void spentNotWhenThe80thBreaks() {
        PowderMill x = seventyNineBegun();
        x.step(WRITE, 8);
        x.step(OUT, 0);
        due("run()", x.run(), -10 - ROW);
        due("begun()", x.begun(), 80);
        due("count(3)", x.count(3), 1);
        due("count(4)", x.count(4), 0);
        due("where()", x.where(), 22);
    }

    @Says("When 80 were begun: the 80th meets a FAULT that is CAUGHT")
    private static void spentBehindACatchOnlyWithOneMore() {
        PowderMill x = seventyNineBegun();
        x.alter(2, IN, 1);
        x.step(WRITE, 8);
        due("run() with none behind it", x.run(), 80);
        due("count(4)", x.count(4), 0);
        x.step(WRITE, 0);
        due("run() with one behind it", x.run(), SPENT);
        due("count(3)", x.count(3), 0);
        due("count(4)", x.count(4), 1);
        due("house(1, 5)", x.house(1, CAUGHT), 2);
        due("row(0)", x.row(0), 0);
    }

    @Says("When 80 were begun: the 80th passes over all that is left")
    private static void spentNotWhenThe80thSkipsToTheEnd() {
        PowderMill x = seventyNineBegun();
        x.step(SKIP, 3);
        x.step(WRITE, 0);
        x.step(WRITE, 1);
        x.step(WRITE, 2);
        due("run() with none left", x.run(), 80);
        x.step(WRITE, 3);
        due("run() with one left", x.run(), SPENT);
        due("count(4)", x.count(4), 1);
    }

    @Says("When 80 were begun: the 80th is an AGAIN that goes back, or does not")
    private static void spentWhenThe80thGoesBack() {
        PowderMill x = twoRefuges();
        order(x, OUT, 0, OUT, 0, OUT, 0, OUT, 0, IN, 0);
        for (int i = 0; i < 24; i++) {
            x.step(GRIND, 1);
        }
        due("step", x.step(AGAIN, 3), 30);
        dueSpent(x);
        due("house(0, 1)", x.house(0, POWDER), 72);
        x.build(0, 10, false);
        x.alter(29, AGAIN, 2);
        due("run() that does not go back", x.run(), 80);
        due("house(0, 1)", x.house(0, POWDER), 72);
        due("count(4)", x.count(4), 1);
    }

    @Says("those passed over do not count: 80 begun with more passed over")
    private static void spentNotByStepsPassedOver() {
        PowderMill x = seventyNineBegun();
        // Two GRINDS less in each of the four times: 71 are begun.
        x.alter(3, SKIP, 2);
        for (int i = 0; i < 8; i++) {
            x.step(OUT, 0);
        }
        due("run()", x.run(), 79);
        x.alter(3, SKIP, 1);
        due("run() with one more each time", x.run(), SPENT);
    }

    @Says("(also one that meets a FAULT) counts: 80 with FAULTS among them")
    private static void spentWithFaultsAmongThem() {
        PowderMill x = twoRefuges();
        order(x, IN, 0, IN, 1, WRITE, 8, IN, 1, WRITE, 8, IN, 1, WRITE, 8, IN, 1, WRITE, 8, IN, 1, WRITE, 8, IN, 1, WRITE, 8, IN, 1, WRITE, 8,
            IN, 1, WRITE, 8, IN, 1, WRITE, 8, AGAIN, 3);
        due("run() with 77", x.run(), 1 + 4 * 19);
        due("count(16)", x.count(10 + ROW), 36);
        x.step(OUT, 0);
        x.step(OUT, 0);
        x.step(OUT, 0);
        due("run() with 80", x.run(), 80);
        x.step(OUT, 0);
        due("run() with 81", x.run(), SPENT);
    }

    @Says("the RUN is SPENT: the next RUN begins at none")
    private static void spentIsOverInTheNextRun() {
        PowderMill x = seventyNineBegun();
        x.step(OUT, 0);
        x.step(OUT, 0);
        dueSpent(x);
        due("run() again", x.run(), SPENT);
        due("count(4)", x.count(4), 2);
        due("run() of another order", runOf(x, IN, 0, AGAIN, 3), 5);
        due("begun()", x.begun(), 5);
    }

    @Says("the RUN is SPENT: however often AGAINS within AGAINS would go back, it ends")
    private static void spentByAgainsWithinAgains() {
        PowderMill x = twoRefuges();
        order(x, IN, 0, IN, 0, IN, 0, IN, 0, IN, 0, IN, 0, AGAIN, 3, OUT, 0, AGAIN, 3, OUT, 0, AGAIN, 3, OUT, 0, AGAIN, 3, OUT, 0, AGAIN, 3, OUT, 0, AGAIN, 3);
        dueSpent(x);
    }
}
