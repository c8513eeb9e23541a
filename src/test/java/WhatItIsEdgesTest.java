import java.io.IOException;
import java.util.ArrayList;
import java.util.List;

/** The section before the terms: what the class does in all, and how many calls an object answers. */
public final class WhatItIsEdgesTest {
    private static final int CALLS = 512;

    private final List<ByHand> spaces = new ArrayList<>();

    public static void main(String[] args) throws IOException {
        new WhatItIsEdgesTest().test();
    }

    private void test() throws IOException {
        Sentences said = new Sentences("What it is");
        said.hold("A small model checker: processes with places and transitions over shared variables and a"
                + " channel are gone through state by state;", this::stateByState);
        said.hold("claims are checked with the shortest way to where they fail,", this::shortestWay);
        said.hold("states that are stuck are found,", this::stuckAreFound);
        said.hold("and what must come again and again;", this::againAndAgain);
        said.hold("and one may walk through the states by hand.", this::byHand);
        said.hold("An object is used for at most 512 calls after it has been made;", WhatItIsEdgesTest::everyCall);
        said.nameNoEdge("what later calls answer is free.");
        said.end();
    }

    /** No walk leaves the SPACE, and each STATE but the first is come to from one with a lesser number. */
    private void stateByState(Due due) {
        for (Plan plan : Plan.some()) {
            ByHand space = new ByHand(plan, due);
            spaces.add(space);
            boolean[] found = new boolean[space.size];
            for (int s = 0; s < space.size; s++) {
                due.yes("STATE " + s + " of plan " + plan.number + " is found before", s == 0 || found[s]);
                for (int to : space.next[s]) {
                    if (to >= 0) {
                        found[to] = true;
                    }
                }
            }
        }
        due.yes("there are many SPACES", spaces.size() > 50);
    }

    private void shortestWay(Due due) {
        int failingFarOff = 0;
        for (ByHand space : spaces) {
            for (int claim = 0; claim < space.plan.claims(); claim++) {
                boolean[] failing = space.failing(claim);
                int where = first(failing);
                ClaimDesk desk = space.plan.claimed(claim);
                String of = " of CLAIM " + claim + ", plan " + space.plan.number;
                due.is("fails(0)" + of, desk.fails(0), where);
                if (where >= 0) {
                    int steps = leastOf(space.steps, failing);
                    failingFarOff += steps > 2 ? 1 : 0;
                    due.is("the steps to where it FAILS" + of, desk.way(where, -1), steps);
                    walkTheWay(due, of, desk, where, steps);
                }
            }
        }
        due.yes("some FAIL far off", failingFarOff > 10);
    }

    private static int first(boolean[] states) {
        for (int s = 0; s < states.length; s++) {
            if (states[s]) {
                return s;
            }
        }
        return ClaimDesk.NONE;
    }

    private static int leastOf(int[] steps, boolean[] states) {
        int least = Integer.MAX_VALUE;
        for (int s = 0; s < states.length; s++) {
            least = states[s] ? Math.min(least, steps[s]) : least;
        }
        return least;
    }

    private static void walkTheWay(Due due, String of, ClaimDesk desk, int where, int steps) {
        desk.go(0);
        for (int k = 0; k < steps; k++) {
            due.is("claims that FAIL before the end" + of, desk.now(12), 0);
            due.yes("walk by step " + k + of, desk.walk(desk.way(where, k)));
        }
        due.is("where the way ends" + of, desk.now(11), where);
        due.is("claims that FAIL there" + of, desk.now(12), 1);
    }

    private void stuckAreFound(Due due) {
        int found = 0;
        for (ByHand space : spaces) {
            int stuck = 0;
            int least = ClaimDesk.NONE;
            for (int s = space.size - 1; s >= 0; s--) {
                if (space.isStuck(s)) {
                    stuck++;
                    least = s;
                }
            }
            ClaimDesk desk = space.plan.explored();
            due.is("STUCK STATES of plan " + space.plan.number, desk.count(5), stuck);
            // No plan uses PLACE 7, so that none is DONE.
            due.is("the least of plan " + space.plan.number, desk.stuck(false), least);
            found += stuck;
        }
        due.yes("some were found", found > 10);
    }

    private void againAndAgain(Due due) {
        int mustCome = 0;
        for (ByHand space : spaces) {
            for (int claim = 0; claim < space.plan.claims(); claim++) {
                boolean[] avoiding = space.avoiding(space.failing(claim));
                int howMany = 0;
                for (boolean one : avoiding) {
                    howMany += one ? 1 : 0;
                }
                mustCome += howMany == 0 ? 1 : 0;
                ClaimDesk desk = space.plan.claimed(claim);
                String of = " of CLAIM " + claim + ", plan " + space.plan.number;
                due.is("avoids(0, 0)" + of, desk.avoids(0, 0), first(avoiding));
                due.is("avoids(0, 1)" + of, desk.avoids(0, 1), howMany);
            }
        }
        due.yes("some must come again and again", mustCome > 10);
    }

    /** The same steps, with a SPACE and without, by the WAY of the STATE with the greatest number. */
    private void byHand(Due due) {
        for (ByHand space : spaces) {
            ClaimDesk with = space.plan.explored();
            ClaimDesk without = space.plan.bare();
            int last = space.size - 1;
            for (int k = 0; k < with.way(last, -1); k++) {
                int t = with.way(last, k);
                due.yes("walk with a SPACE, plan " + space.plan.number, with.walk(t));
                due.yes("walk without, plan " + space.plan.number, without.walk(t));
            }
            due.is("now(11) of plan " + space.plan.number, with.now(11), last);
            for (int what = 0; what <= 9; what++) {
                due.is("now(" + what + ") of plan " + space.plan.number, with.now(what), with.state(last, what));
                due.is("now(" + what + ") without a SPACE", without.now(what), with.state(last, what));
            }
        }
    }

    /** The dearest calls, up to the last one that is promised. */
    private static void everyCall(Due due) {
        ClaimDesk exploring = Desks.threeHundred();
        for (int call = exploring.count(0) + 2; call <= CALLS; call++) {
            due.is("call " + call + ", explore()", exploring.explore(), 300);
        }
        ClaimDesk large = Desks.tooLong();
        for (int call = large.count(0) + 3; call <= CALLS; call++) {
            due.is("call " + call + ", explore()", large.explore(), ClaimDesk.LARGE);
        }
        ClaimDesk row = Desks.longRow();
        row.claim(0, 3, 0);
        row.explore();
        for (int call = row.count(0) + 5; call < CALLS; call += 2) {
            due.is("call " + call + ", avoids(0, 1)", row.avoids(0, 1), 0);
            due.is("call " + (call + 1) + ", way(299, 0)", row.way(299, 0), 6);
        }
        ClaimDesk walking = Desks.chain(1);
        walking.change(0, 0, 0, 0, Op.add(0, 1));
        for (int call = 3; call < CALLS; call++) {
            due.yes("call " + call + ", walk(0)", walking.walk(0));
        }
        due.is("call 512, now(13)", walking.now(13), CALLS - 3);
    }
}
