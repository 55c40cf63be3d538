import java.util.ArrayList;
import java.util.List;

/** Many runs of calls, the same ones each time, against a second telling of the document: stays are calls, faults are exceptions. */
public final class PowderMillAgainstModel {
    private static final int OBJECTS = 4000;
    private static final int CALLS = 512;
    private static final String[] NAMES = {"build", "raze", "step", "clear", "alter", "run", "begun", "where", "house", "row", "count"};

    private static long seed = 20261116L;

    public static void main(String[] args) {
        int wrong = 0;
        int[] ends = new int[4];
        for (int i = 0; i < OBJECTS && wrong < 20; i++) {
            wrong += compareOneObject(i, ends);
        }
        System.out.println("runs: " + ends[0] + " to an end, " + ends[1] + " by a fault, " + ends[2] + " spent, " + ends[3] + " quit");
        for (int end : ends) {
            // An end that never came about would not have been compared.
            wrong += end == 0 ? 1 : 0;
        }
        System.out.println(wrong == 0 ? "all answers are as due" : wrong + " answers are not as due");
        if (wrong != 0) {
            System.exit(1);
        }
    }

    private static int below(int bound) {
        seed = seed * 6364136223846793005L + 1442695040888963407L;
        return (int) Math.floorMod(seed >>> 33, (long) bound);
    }

    private static int compareOneObject(int object, int[] ends) {
        PowderMill x = new PowderMill();
        Model m = new Model();
        for (int c = 0; c < CALLS; c++) {
            int call = pickCall();
            int[] p = {pickNumber(call, 0), pickNumber(call, 1), pickNumber(call, 2)};
            String got = answer(x, call, p);
            String want = m.answer(call, p);
            if (!got.equals(want)) {
                System.out.println("object " + object + ", call " + c + ": " + NAMES[call] + "(" + p[0] + ", " + p[1] + ", " + p[2]
                        + ") answered " + got + ", due is " + want);
                return 1;
            }
        }
        ends[0] += m.runs - m.faultRuns - m.spentRuns - m.quitRuns;
        ends[1] += m.faultRuns;
        ends[2] += m.spentRuns;
        ends[3] += m.quitRuns;
        return 0;
    }

    private static int pickCall() {
        int r = below(100);
        int[] upTo = {8, 9, 45, 46, 56, 66, 69, 74, 86, 91, 100};
        int call = 0;
        while (r >= upTo[call]) {
            call++;
        }
        return call;
    }

    private static int pickNumber(int call, int position) {
        if (below(60) == 0) {
            return new int[] {Integer.MIN_VALUE, Integer.MAX_VALUE, -1, 8, 9, 100, 101}[below(7)];
        }
        boolean isAct = call == 2 && position == 0 || call == 4 && position == 1;
        boolean isNumber = call == 2 && position == 1 || call == 4 && position == 2;
        if (isAct) {
            return new int[] {0, 0, 0, 0, 1, 2, 2, 3, 3, 4, 5, 6, 7, 8, 8, 8}[below(16)];
        }
        if (isNumber) {
            return below(3) == 0 ? below(2000) - 1000 : below(12) - 2;
        }
        if (call == 0 && position == 1) {
            return below(3) == 0 ? below(100) + 1 : below(4) + 1;
        }
        if (call == 0 && position == 2) {
            return below(3) == 0 ? 1 : 0;
        }
        return call == 4 ? below(31) : call == 10 ? below(18) : below(8);
    }

    private static String answer(PowderMill x, int call, int[] p) {
        try {
            switch (call) {
                case 0: return "" + x.build(p[0], p[1], p[2] == 1);
                case 1: return "" + x.raze(p[0]);
                case 2: return "" + x.step(p[0], p[1]);
                case 3: return "" + x.clear();
                case 4: return "" + x.alter(p[0], p[1], p[2]);
                case 5: return "" + x.run();
                case 6: return "" + x.begun();
                case 7: return "" + x.where();
                case 8: return "" + x.house(p[0], p[1]);
                case 9: return "" + x.row(p[0]);
                default: return "" + x.count(p[0]);
            }
        } catch (RuntimeException e) {
            return "throws." + e.getClass().getSimpleName();
        }
    }

    private static final class Fault extends Exception {
        private static final long serialVersionUID = 1L;
        final int number;

        Fault(int number) {
            this.number = number;
        }
    }

    /** The RUN is over, by QUIT or because it is SPENT. */
    private static final class Over extends Exception {
        private static final long serialVersionUID = 1L;
        final boolean quit;

        Over(boolean quit) {
            this.quit = quit;
        }
    }

    private static final class Model {
        // Of each HOUSE what house() tells, in its order; null: there is none.
        private final int[][] houses = new int[8][];
        private final int[] rows = new int[8];
        private final List<int[]> order = new ArrayList<>();
        private final int[] met = new int[7];
        private int runs, faultRuns, spentRuns, quitRuns, begun, next;
        private int where = -1;

        String answer(int call, int[] p) {
            boolean place = p[0] >= 0 && p[0] <= 7;
            switch (call) {
                case 0: return "" + (place && p[1] >= 1 && p[1] <= 100 ? replace(p[0], new int[] {p[1], 0, p[2] == 1 ? 1 : 0, 0, 0, 0, 0}) : -1);
                case 1: return "" + (place ? replace(p[0], null) : -1);
                case 2: return "" + step(p[0], p[1]);
                case 3: return "" + clear();
                case 4: return "" + alter(p[0], p[1], p[2]);
                case 5: return "" + run();
                case 6: return "" + begun;
                case 7: return "" + where;
                case 8: return "" + (place && houses[p[0]] != null && p[1] >= 0 && p[1] <= 6 ? houses[p[0]][p[1]] : -1);
                case 9: return place ? "" + rows[p[0]] : "throws.ArrayIndexOutOfBoundsException";
                default: return "" + count(p[0]);
            }
        }

        private int replace(int k, int[] house) {
            int before = houses[k] == null ? 0 : 1;
            houses[k] = house;
            return before;
        }

        private int step(int act, int a) {
            if (act < 0 || act > 8) {
                return -1;
            }
            if (order.size() == 30) {
                return -2;
            }
            order.add(new int[] {act, a});
            return order.size();
        }

        private int clear() {
            int size = order.size();
            order.clear();
            return size;
        }

        private int alter(int i, int act, int a) {
            if (i < 0 || i >= order.size() || act < 0 || act > 8) {
                return -1;
            }
            return order.set(i, new int[] {act, a})[0];
        }

        private int count(int what) {
            int standing = 0;
            for (int[] h : houses) {
                standing += h == null ? 0 : 1;
            }
            int[] answers = {standing, order.size(), runs, faultRuns, spentRuns, quitRuns, -1, -1, -1, -1, -1,
                met[1], met[2], met[3], met[4], met[5], met[6]};
            return what < 0 || what >= answers.length ? -1 : answers[what];
        }

        private int run() {
            runs++;
            begun = 0;
            next = 0;
            try {
                stay(null, null, 0);
                return begun;
            } catch (Over o) {
                spentRuns += o.quit ? 0 : 1;
                quitRuns += o.quit ? 1 : 0;
                return o.quit ? begun : -3;
            } catch (Fault f) {
                faultRuns++;
                return -10 - f.number;
            }
        }

        /** One stay, from behind its IN to its OUT; null is THE YARD. */
        private void stay(int[] here, int[] around, int depth) throws Fault, Over {
            int start = next;
            int back = 0;
            while (next < order.size()) {
                if (begun == 80) {
                    throw new Over(false);
                }
                begun++;
                int[] s = order.get(next++);
                if (s[0] == 0) {
                    goIn(Math.floorMod(s[1], 8), here, depth);
                } else if (s[0] == 1 && here != null) {
                    return;
                } else if (s[0] == 6) {
                    throw new Over(true);
                } else if (s[0] == 7) {
                    next += Math.floorMod(s[1], 4);
                } else if (s[0] == 8 && here != null && back < Math.floorMod(s[1], 4)) {
                    back++;
                    next = start;
                } else if (s[0] == 5) {
                    breakIf(s[1] < 0 || s[1] > 7, 6);
                    rows[s[1]] = here == null ? -1 : here[1];
                } else if (here != null) {
                    work(s[0], s[1], here, around);
                }
            }
        }

        private void goIn(int k, int[] here, int depth) throws Fault, Over {
            breakIf(depth == 6, 2);
            int[] house = houses[k];
            breakIf(house == null, 1);
            house[3]++;
            house[6]++;
            try {
                stay(house, here, depth + 1);
            } catch (Fault f) {
                if (house[2] == 0) {
                    throw f;
                }
                house[5]++;
            } finally {
                house[6]--;
            }
        }

        private void work(int act, int a, int[] here, int[] around) throws Fault {
            int amount = Math.floorMod(a, 1000);
            if (act == 2) {
                pour(here, amount);
            } else if (act == 3 && around != null) {
                breakIf(here[1] < amount, 4);
                here[1] -= amount;
                pour(around, amount);
            } else if (act == 4) {
                breakIf(Math.floorMod(a, 10) == 0, 5);
                here[1] = here[1] / Math.floorMod(a, 10);
            }
        }

        private void pour(int[] house, int amount) throws Fault {
            house[1] += amount;
            if (house[1] > 10 * house[0]) {
                house[1] = 0;
                house[4]++;
                breakIf(true, 3);
            }
        }

        private void breakIf(boolean broken, int fault) throws Fault {
            if (broken) {
                met[fault]++;
                where = next - 1;
                throw new Fault(fault);
            }
        }
    }
}
