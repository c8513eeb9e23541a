public final class P07ExploreTest {
    public static void main(String[] args) {
        Due due = new Due();
        numbersAsFound(due);
        threeHundredFit(due);
        moreDoNot(due);
        justOneMore(due);
        madeAnew(due);
        stateNowStays(due);
        beginsAtTheFirstState(due);
        due.end();
    }

    private static void numbersAsFound(Due due) {
        ClaimDesk desk = new ClaimDesk();
        desk.add(1, 0, 2, Op.PASS);
        desk.add(0, 0, 3, Op.PASS);
        desk.add(0, 0, 1, Op.PASS);
        desk.add(0, 0, 3, Op.PASS);
        due.is("explore()", desk.explore(), 6);
        int[] placesOf0 = {0, 0, 3, 1, 3, 1};
        int[] placesOf1 = {0, 2, 0, 0, 2, 2};
        for (int s = 0; s < 6; s++) {
            due.is("state(" + s + ", 0)", desk.state(s, 0), placesOf0[s]);
            due.is("state(" + s + ", 1)", desk.state(s, 1), placesOf1[s]);
        }
    }

    private static void threeHundredFit(Due due) {
        ClaimDesk desk = Desks.threeHundred();
        due.is("explore()", desk.explore(), 300);
        due.is("count(2)", desk.count(2), 300);
        due.is("state(299, 10) is there", desk.state(299, 10) >= 0, true);
        due.is("state(300, 10)", desk.state(300, 10), ClaimDesk.NONE);
        due.yes("go(299)", desk.go(299));
        due.is("now(11)", desk.now(11), 299);
        due.no("go(300)", desk.go(300));
    }

    /**
     * PROCESS 0 at PLACES 0 to 3 with three VARIABLES: 256 STATES; at 4: 32, at 5: 8, at 6: 3; the last
     * TRANSITION leads one or two of these to PLACE 7, so that there are 300 or 301.
     */
    private static void justOneMore(Due due) {
        ClaimDesk desk = new ClaimDesk();
        for (int v = 0; v < 3; v++) {
            desk.add(0, 0, 0, Op.add(v, 1));
            desk.add(0, v, v + 1, Op.PASS);
        }
        desk.add(0, 3, 4, Op.is(0, 0));
        desk.add(0, 4, 4, Op.set(3, 1));
        desk.add(0, 4, 5, Op.is(1, 0));
        desk.add(0, 5, 6, Op.is(2, 0));
        desk.add(0, 6, 6, Op.set(3, 2));
        due.is("explore()", desk.explore(), 299);
        int last = desk.add(0, 6, 7, Op.is(3, 0));
        due.is("explore()", desk.explore(), 300);
        desk.change(last, 0, 6, 7, Op.isNot(3, 0));
        due.is("explore()", desk.explore(), ClaimDesk.LARGE);
        due.is("count(2)", desk.count(2), ClaimDesk.NONE);
    }

    private static void moreDoNot(Due due) {
        ClaimDesk desk = Desks.threeHundred();
        desk.explore();
        desk.walk(0);
        desk.add(2, 0, 7, Op.is(0, 3));
        desk.claim(3, 0, 0);
        due.is("explore()", desk.explore(), ClaimDesk.LARGE);
        due.is("count(2)", desk.count(2), ClaimDesk.NONE);
        due.is("now(11)", desk.now(11), ClaimDesk.NONE);
        due.is("fails(0)", desk.fails(0), ClaimDesk.NONE);
        due.is("way(0, -1)", desk.way(0, -1), ClaimDesk.NONE);
        due.is("state(0, 0)", desk.state(0, 0), ClaimDesk.NONE);
        due.is("stuck(false)", desk.stuck(false), ClaimDesk.NONE);
        due.no("go(0)", desk.go(0));
        due.is("now(0)", desk.now(0), 1);
        due.is("now(13)", desk.now(13), 1);
        due.is("count(0)", desk.count(0), 15);
        due.is("explore() again", desk.explore(), ClaimDesk.LARGE);
        due.yes("change back", desk.change(14, 2, 0, 0, Op.PASS));
        due.is("explore() when it fits", desk.explore(), 300);
        due.is("now(11)", desk.now(11), 1);
    }

    private static void madeAnew(Due due) {
        ClaimDesk desk = Desks.chain(3);
        due.is("explore()", desk.explore(), 4);
        due.is("explore() again", desk.explore(), 4);
        due.is("count(3)", desk.count(3), 3);
        desk.change(1, 0, 1, 0, Op.PASS);
        due.is("explore() of the smaller one", desk.explore(), 2);
        due.is("state(2, 0)", desk.state(2, 0), ClaimDesk.NONE);
        due.is("state(1, 12)", desk.state(1, 12), 0);
        due.is("count(12)", desk.count(12), 0);
    }

    private static void stateNowStays(Due due) {
        ClaimDesk desk = Desks.chain(3);
        desk.walk(0);
        desk.walk(1);
        due.is("now(11)", desk.now(11), ClaimDesk.NONE);
        due.is("explore()", desk.explore(), 4);
        due.is("now(0)", desk.now(0), 2);
        due.is("now(11)", desk.now(11), 2);
        due.is("now(13)", desk.now(13), 2);
    }

    private static void beginsAtTheFirstState(Due due) {
        ClaimDesk desk = Desks.chain(3);
        desk.walk(0);
        desk.explore();
        due.is("state(0, 0)", desk.state(0, 0), 0);
        desk.clear();
        desk.begin(6);
        desk.explore();
        due.is("state(0, 3)", desk.state(0, 3), 2);
        due.is("state(0, 4)", desk.state(0, 4), 1);
    }
}
