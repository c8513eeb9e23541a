import java.util.Arrays;

/**
 * A SPACE as it is found by hand, by go, walk and now alone: what the other calls tell of the whole SPACE
 * must agree with it.
 */
final class ByHand {
    final Plan plan;
    final int size;
    /** Of each STATE and TRANSITION: the number of the STATE to which it LEADS; -1 if it is not OPEN. */
    final int[][] next;
    /** Of each STATE the least number of steps from STATE 0. */
    final int[] steps;

    ByHand(Plan plan, Due due) {
        this.plan = plan;
        size = plan.explored().count(2);
        next = new int[size][plan.transitions()];
        for (int s = 0; s < size; s++) {
            walkFrom(s, due);
        }
        steps = leastSteps();
    }

    private void walkFrom(int s, Due due) {
        ClaimDesk desk = plan.explored();
        for (int t = 0; t < plan.transitions(); t++) {
            due.yes("go(" + s + ") of plan " + plan.number, desk.go(s));
            boolean open = desk.walk(t);
            next[s][t] = open ? desk.now(11) : -1;
            due.yes("walk(" + t + ") from " + s + " of plan " + plan.number + " stays in the SPACE",
                    !open || next[s][t] >= 0 && next[s][t] < size);
        }
    }

    private int[] leastSteps() {
        int[] least = new int[size];
        Arrays.fill(least, 1, size, Integer.MAX_VALUE);
        for (boolean shorter = true; shorter;) {
            shorter = false;
            for (int s = 0; s < size; s++) {
                for (int to : next[s]) {
                    if (to >= 0 && least[s] != Integer.MAX_VALUE && least[to] > least[s] + 1) {
                        least[to] = least[s] + 1;
                        shorter = true;
                    }
                }
            }
        }
        return least;
    }

    boolean isStuck(int s) {
        for (int to : next[s]) {
            if (to >= 0) {
                return false;
            }
        }
        return true;
    }

    /** In which STATES the CLAIM FAILS. */
    boolean[] failing(int claim) {
        boolean[] failing = new boolean[size];
        ClaimDesk desk = plan.claimed(claim);
        for (int s = 0; s < size; s++) {
            // An object answers 512 calls, so there are several.
            desk = s % 100 == 99 ? plan.claimed(claim) : desk;
            desk.go(s);
            failing[s] = desk.now(12) == 1;
        }
        return failing;
    }

    /** From which STATES it can be kept from FAILING: those that are left when no more can be struck out. */
    boolean[] avoiding(boolean[] failing) {
        boolean[] avoiding = new boolean[size];
        for (int s = 0; s < size; s++) {
            avoiding[s] = !failing[s];
        }
        for (boolean struck = true; struck;) {
            struck = false;
            for (int s = 0; s < size; s++) {
                if (avoiding[s] && !isStuck(s) && !leadsToOneOf(avoiding, s)) {
                    avoiding[s] = false;
                    struck = true;
                }
            }
        }
        return avoiding;
    }

    private boolean leadsToOneOf(boolean[] states, int s) {
        for (int to : next[s]) {
            if (to >= 0 && states[to]) {
                return true;
            }
        }
        return false;
    }
}
