/** A powder mill: an order of steps that goes into houses, one within another, and out of them by every way. */
public final class PowderMill {
    public static final int BAD = -1, FULL = -2, SPENT = -3;

    private static final int PLACES = 8;
    private static final int MOST_WALLS = 100;
    private static final int ROWS = 8;
    private static final int MOST_STEPS = 30;
    private static final int MOST_BEGUN = 80;
    private static final int MOST_STAYS = 6;

    private static final int IN = 0;
    private static final int OUT = 1;
    private static final int GRIND = 2;
    private static final int CARRY = 3;
    private static final int SHARE = 4;
    private static final int WRITE = 5;
    private static final int QUIT = 6;
    private static final int SKIP = 7;
    private static final int AGAIN = 8;

    private static final int NO_FAULT = 0;
    private static final int FAULT_NONE = 1;
    private static final int FAULT_DEEP = 2;
    private static final int FAULT_SPARK = 3;
    private static final int FAULT_SHORT = 4;
    private static final int FAULT_ZERO = 5;
    private static final int FAULT_ROW = 6;

    private final House[] places = new House[PLACES];
    private final Path path = new Path();
    private final int[] ledger = new int[ROWS];

    private final int[] acts = new int[MOST_STEPS];
    private final int[] numbers = new int[MOST_STEPS];
    private int stepCount = 0;

    private int nextStep = 0;
    private int latestBegun = 0;
    private int latestFaultStep = -1;

    private final int[] faultsMet = new int[FAULT_ROW + 1];
    private int runs = 0;
    private int faultRuns = 0;
    private int spentRuns = 0;
    private int quitRuns = 0;

    public PowderMill() {
        for (int k = 0; k < PLACES; k++) {
            places[k] = new House();
        }
    }

    public int build(int k, int walls, boolean refuge) {
        if (!isPlace(k) || walls < 1 || walls > MOST_WALLS) {
            return BAD;
        }
        int before = places[k].stands ? 1 : 0;
        places[k].setUp(walls, refuge);
        return before;
    }

    public int raze(int k) {
        if (!isPlace(k)) {
            return BAD;
        }
        int before = places[k].stands ? 1 : 0;
        places[k].stands = false;
        return before;
    }

    public int step(int act, int a) {
        if (!isAct(act)) {
            return BAD;
        }
        if (stepCount >= MOST_STEPS) {
            return FULL;
        }
        acts[stepCount] = act;
        numbers[stepCount] = a;
        stepCount++;
        return stepCount;
    }

    public int clear() {
        int before = stepCount;
        stepCount = 0;
        return before;
    }

    public int alter(int i, int act, int a) {
        if (i < 0 || i >= stepCount || !isAct(act)) {
            return BAD;
        }
        int before = acts[i];
        acts[i] = act;
        numbers[i] = a;
        return before;
    }

    public int run() {
        runs++;
        latestBegun = 0;
        nextStep = 0;
        int end = followOrder();
        path.leaveDownTo(0);
        if (end == SPENT) {
            spentRuns++;
            return SPENT;
        }
        if (end != NO_FAULT) {
            faultRuns++;
            return -10 - end;
        }
        return latestBegun;
    }

    public int begun() {
        return latestBegun;
    }

    public int where() {
        return latestFaultStep;
    }

    public int house(int k, int what) {
        if (!isPlace(k) || !places[k].stands) {
            return BAD;
        }
        return places[k].tell(what);
    }

    public int row(int i) throws ArrayIndexOutOfBoundsException {
        if (!isRow(i)) {
            throw new ArrayIndexOutOfBoundsException("there is no such row");
        }
        return ledger[i];
    }

    public int count(int what) {
        if (what > 10 && what <= 10 + FAULT_ROW) {
            return faultsMet[what - 10];
        }
        switch (what) {
            case 0:
                return standingHouses();
            case 1:
                return stepCount;
            case 2:
                return runs;
            case 3:
                return faultRuns;
            case 4:
                return spentRuns;
            case 5:
                return quitRuns;
            default:
                return BAD;
        }
    }

    private static boolean isPlace(int k) {
        return k >= 0 && k < PLACES;
    }

    private static boolean isAct(int act) {
        return act >= IN && act <= AGAIN;
    }

    private static boolean isRow(int i) {
        return i >= 0 && i < ROWS;
    }

    private int standingHouses() {
        int standing = 0;
        for (int k = 0; k < PLACES; k++) {
            if (places[k].stands) {
                standing++;
            }
        }
        return standing;
    }

    /** Answers NO_FAULT (also for QUIT), the FAULT that nothing caught, or SPENT. */
    private int followOrder() {
        while (latestBegun < MOST_BEGUN) {
            if (nextStep >= stepCount) {
                return NO_FAULT;
            }
            int at = nextStep;
            latestBegun++;
            nextStep = at + 1;
            if (acts[at] == QUIT) {
                quitRuns++;
                return NO_FAULT;
            }
            int fault = perform(at);
            if (fault != NO_FAULT && !isCaught(fault, at)) {
                return fault;
            }
        }
        return nextStep < stepCount ? SPENT : NO_FAULT;
    }

    private boolean isCaught(int fault, int at) {
        faultsMet[fault]++;
        latestFaultStep = at;
        return path.leaveByRefuge();
    }

    /** Answers the FAULT that the STEP met, or NO_FAULT. */
    private int perform(int at) {
        int a = numbers[at];
        switch (acts[at]) {
            case IN:
                return goIn(Math.floorMod(a, PLACES), at);
            case OUT:
                path.leaveHere();
                return NO_FAULT;
            case GRIND:
                return grind(Math.floorMod(a, 1000));
            case CARRY:
                return carry(Math.floorMod(a, 1000));
            case SHARE:
                return share(Math.floorMod(a, 10));
            case WRITE:
                return write(a);
            case SKIP:
                nextStep += Math.floorMod(a, 4);
                return NO_FAULT;
            case AGAIN:
                nextStep = path.stepBehindAgain(Math.floorMod(a, 4), nextStep);
                return NO_FAULT;
            default:
                return NO_FAULT;
        }
    }

    private int goIn(int k, int at) {
        if (path.isFull()) {
            return FAULT_DEEP;
        }
        if (!places[k].stands) {
            return FAULT_NONE;
        }
        path.enter(places[k], at);
        return NO_FAULT;
    }

    private int grind(int amount) {
        House here = path.here();
        return here == null ? NO_FAULT : here.receive(amount);
    }

    private int carry(int amount) {
        House here = path.here();
        House around = path.around();
        if (here == null || around == null) {
            return NO_FAULT;
        }
        if (here.powder < amount) {
            return FAULT_SHORT;
        }
        // Taken away first: HERE and AROUND may be one HOUSE, which then gets it back and has no SPARK.
        here.powder -= amount;
        return around.receive(amount);
    }

    private int share(int parts) {
        House here = path.here();
        if (here == null) {
            return NO_FAULT;
        }
        if (parts == 0) {
            return FAULT_ZERO;
        }
        here.powder /= parts;
        return NO_FAULT;
    }

    private int write(int i) {
        if (!isRow(i)) {
            return FAULT_ROW;
        }
        House here = path.here();
        ledger[i] = here == null ? -1 : here.powder;
        return NO_FAULT;
    }

    /** A place's HOUSE; it is made once and set up anew for each HOUSE that is built there. */
    private static final class House {
        private boolean stands;
        private int walls;
        private int powder;
        private boolean refuge;
        private int timesIn;
        private int sparks;
        private int timesCaught;
        private int staysNow;

        void setUp(int newWalls, boolean newRefuge) {
            stands = true;
            walls = newWalls;
            powder = 0;
            refuge = newRefuge;
            timesIn = 0;
            sparks = 0;
            timesCaught = 0;
            staysNow = 0;
        }

        int receive(int amount) {
            powder += amount;
            if (powder <= 10 * walls) {
                return NO_FAULT;
            }
            powder = 0;
            sparks++;
            return FAULT_SPARK;
        }

        int tell(int what) {
            switch (what) {
                case 0:
                    return walls;
                case 1:
                    return powder;
                case 2:
                    return refuge ? 1 : 0;
                case 3:
                    return timesIn;
                case 4:
                    return sparks;
                case 5:
                    return timesCaught;
                case 6:
                    return staysNow;
                default:
                    return BAD;
            }
        }
    }

    /** The stays that are not over yet, the outermost first; without any, one is in THE YARD. */
    private static final class Path {
        private final House[] houses = new House[MOST_STAYS];
        private final int[] inSteps = new int[MOST_STAYS];
        private final int[] timesBack = new int[MOST_STAYS];
        private int depth = 0;

        boolean isFull() {
            return depth >= MOST_STAYS;
        }

        /** Answers null for THE YARD. */
        House here() {
            return depth >= 1 ? houses[depth - 1] : null;
        }

        /** Answers null for THE YARD, and in it. */
        House around() {
            return depth >= 2 ? houses[depth - 2] : null;
        }

        /** Only while it is not full. */
        void enter(House entered, int inStep) {
            houses[depth] = entered;
            inSteps[depth] = inStep;
            timesBack[depth] = 0;
            depth++;
            entered.timesIn++;
            entered.staysNow++;
        }

        void leaveHere() {
            leaveDownTo(depth - 1);
        }

        void leaveDownTo(int rest) {
            for (; depth > rest && depth > 0; depth--) {
                houses[depth - 1].staysNow--;
            }
        }

        boolean leaveByRefuge() {
            for (int i = depth - 1; i >= 0; i--) {
                if (houses[i].refuge) {
                    houses[i].timesCaught++;
                    leaveDownTo(i);
                    return true;
                }
            }
            return false;
        }

        /** The STEP that an AGAIN goes back to, or the one told if it does not; one that does is counted for its stay. */
        int stepBehindAgain(int most, int otherwise) {
            if (depth == 0 || timesBack[depth - 1] >= most) {
                return otherwise;
            }
            timesBack[depth - 1]++;
            return inSteps[depth - 1] + 1;
        }
    }
}
