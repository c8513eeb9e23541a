public final class P10AvoidsTest {
    public static void main(String[] args) {
        Due due = new Due();
        stuckStatesCount(due);
        roundsCount(due);
        firstAndLastAreIncluded(due);
        longBackWays(due);
        noneAndRefused(due);
        due.end();
    }

    private static void both(Due due, ClaimDesk desk, int i, int least, int howMany) {
        due.is("avoids(" + i + ", 0)", desk.avoids(i, 0), least);
        due.is("avoids(" + i + ", 1)", desk.avoids(i, 1), howMany);
    }

    /** 0 to 1 to 2, and 0 to 3: both ends are STUCK. */
    private static void stuckStatesCount(Due due) {
        ClaimDesk desk = new ClaimDesk();
        desk.add(0, 0, 1, Op.PASS);
        desk.add(0, 0, 3, Op.PASS);
        desk.add(0, 1, 2, Op.PASS);
        desk.claim(1, 0, 1);
        desk.claim(1, 0, 2);
        desk.claim(1, 0, 3);
        desk.claim(1, 1, 5);
        desk.claim(1, 1, 0);
        desk.explore();
        both(due, desk, 0, 0, 3);
        both(due, desk, 1, 0, 2);
        both(due, desk, 2, 0, 3);
        both(due, desk, 3, 0, 4);
        both(due, desk, 4, ClaimDesk.NONE, 0);
    }

    /** A round of 3 PLACES with a way out to 5, and no STATE that is STUCK but that one. */
    private static void roundsCount(Due due) {
        ClaimDesk desk = new ClaimDesk();
        Desks.addRound(desk, 0, 3);
        desk.add(0, 1, 5, Op.PASS);
        desk.claim(1, 0, 5);
        desk.claim(1, 0, 2);
        desk.claim(1, 0, 1);
        due.is("explore()", desk.explore(), 4);
        both(due, desk, 0, 0, 3);
        both(due, desk, 1, 0, 3);
        both(due, desk, 2, 3, 1);
        desk.change(3, 0, 5, 5, Op.PASS);
        due.is("explore()", desk.explore(), 3);
        both(due, desk, 0, 0, 3);
        both(due, desk, 1, ClaimDesk.NONE, 0);
    }

    private static void firstAndLastAreIncluded(Due due) {
        ClaimDesk desk = Desks.chain(2);
        desk.claim(1, 0, 0);
        desk.claim(1, 0, 2);
        desk.explore();
        both(due, desk, 0, 1, 2);
        both(due, desk, 1, ClaimDesk.NONE, 0);
    }

    /**
     * In the large one every STATE but those that FAIL can go round for ever. In the chain the end must
     * come back through every STATE, and one that stays where it is keeps all before it.
     */
    private static void longBackWays(Due due) {
        ClaimDesk desk = Desks.threeHundred();
        desk.claim(0, 0, 3);
        desk.claim(1, 0, 1);
        desk.claim(1, 2, 2);
        desk.explore();
        both(due, desk, 0, 0, 225);
        both(due, desk, 1, 0, 240);
        both(due, desk, 2, 0, 200);
        ClaimDesk chain = Desks.chain(7);
        chain.claim(1, 0, 7);
        chain.explore();
        both(due, chain, 0, ClaimDesk.NONE, 0);
        chain.add(0, 4, 4, Op.PASS);
        chain.explore();
        both(due, chain, 0, 0, 5);
    }

    private static void noneAndRefused(Due due) {
        ClaimDesk desk = Desks.chain(1);
        desk.claim(1, 0, 5);
        both(due, desk, 0, ClaimDesk.NONE, ClaimDesk.NONE);
        int[] wrong = {-1, 2, 3, Integer.MAX_VALUE, Integer.MIN_VALUE};
        for (int what : wrong) {
            due.is("avoids(0, " + what + ") with no SPACE", desk.avoids(0, what), ClaimDesk.REFUSED);
            due.is("avoids(9, " + what + ")", desk.avoids(9, what), ClaimDesk.REFUSED);
        }
        desk.explore();
        both(due, desk, 0, 0, 2);
        both(due, desk, 1, ClaimDesk.NONE, ClaimDesk.NONE);
        both(due, desk, -1, ClaimDesk.NONE, ClaimDesk.NONE);
        both(due, desk, Integer.MAX_VALUE, ClaimDesk.NONE, ClaimDesk.NONE);
        for (int what : wrong) {
            due.is("avoids(0, " + what + ")", desk.avoids(0, what), ClaimDesk.REFUSED);
        }
        due.is("count(2)", desk.count(2), 2);
    }
}
