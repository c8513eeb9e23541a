/** Terms, third part: THE SPACE, and the STATES that are STUCK or DONE. */
final class SpaceEdges {
    private SpaceEdges() {
    }

    static void firstIsZero(Due due) {
        ClaimDesk empty = new ClaimDesk();
        due.is("explore() with no TRANSITION", empty.explore(), 1);
        due.is("now(11)", empty.now(11), 0);
        due.is("state(0, 0)", empty.state(0, 0), 0);
        due.is("state(1, 0)", empty.state(1, 0), ClaimDesk.NONE);
        ClaimDesk desk = Desks.chain(3);
        desk.begin(255);
        desk.walk(0);
        desk.walk(1);
        due.is("explore() from elsewhere", desk.explore(), 4);
        due.is("state(0, 0)", desk.state(0, 0), 0);
        due.is("state(0, 6)", desk.state(0, 6), 3);
        desk.begin(254);
        due.is("explore() after begin", desk.explore(), 4);
        due.is("state(0, 3)", desk.state(0, 3), 2);
    }

    /** Depth first, or with the TRANSITIONS the other way round, the PLACES would come otherwise. */
    static void inTurnAndByNumbers(Due due) {
        ClaimDesk desk = new ClaimDesk();
        desk.add(0, 5, 6, Op.PASS);
        desk.add(0, 0, 3, Op.PASS);
        desk.add(0, 0, 1, Op.PASS);
        desk.add(0, 3, 5, Op.PASS);
        desk.add(0, 1, 2, Op.PASS);
        desk.add(0, 3, 4, Op.PASS);
        desk.add(0, 0, 7, Op.PASS);
        due.is("explore()", desk.explore(), 8);
        int[] places = {0, 3, 1, 7, 5, 4, 2, 6};
        for (int s = 0; s < places.length; s++) {
            due.is("state(" + s + ", 0)", desk.state(s, 0), places[s]);
        }
    }

    static void newOnesAlone(Due due) {
        ClaimDesk desk = new ClaimDesk();
        desk.add(0, 0, 0, Op.PASS);
        due.is("STATES by a TRANSITION to the STATE itself", desk.explore(), 1);
        desk.add(0, 0, 4, Op.PASS);
        desk.add(0, 0, 4, Op.is(0, 0));
        due.is("STATES by two TRANSITIONS to the same", desk.explore(), 2);
        desk.add(0, 4, 0, Op.PASS);
        due.is("STATES by one that leads back", desk.explore(), 2);
        due.is("pairs", desk.count(3), 4);
        desk.add(1, 0, 4, Op.PASS);
        due.is("STATES by two ways to the same", desk.explore(), 4);
        due.is("state(3, 0)", desk.state(3, 0), 4);
        due.is("state(3, 1)", desk.state(3, 1), 4);
    }

    /** STATE 4 can be found from 1, 2 and 3, by TRANSITIONS 2, 1 and 0: its WAY goes on that of STATE 1. */
    static void waysGoOn(Due due) {
        ClaimDesk desk = new ClaimDesk();
        desk.add(0, 3, 4, Op.PASS);
        desk.add(0, 2, 4, Op.PASS);
        desk.add(0, 1, 4, Op.PASS);
        desk.add(0, 0, 1, Op.PASS);
        desk.add(0, 0, 2, Op.PASS);
        desk.add(0, 0, 3, Op.PASS);
        desk.add(0, 4, 5, Op.PASS);
        desk.add(0, 4, 5, Op.PASS);
        due.is("explore()", desk.explore(), 6);
        int[][] ways = {{}, {3}, {4}, {5}, {3, 2}, {3, 2, 6}};
        for (int s = 0; s < ways.length; s++) {
            due.is("way(" + s + ", -1)", desk.way(s, -1), ways[s].length);
            for (int k = 0; k < ways[s].length; k++) {
                due.is("way(" + s + ", " + k + ")", desk.way(s, k), ways[s][k]);
            }
            due.is("behind the WAY of " + s, desk.way(s, ways[s].length), ClaimDesk.NONE);
        }
        ClaimDesk row = explored(Desks.longRow());
        due.is("the WAY of the last of 300 in a row", row.way(299, -1), 299);
        for (int s = 0; s < 299; s++) {
            // An object answers 512 calls, so there are several.
            row = s % 100 == 0 ? explored(Desks.longRow()) : row;
            row.go(s);
            row.walk(row.way(299, s));
            due.is("where step " + s + " of it leads", row.now(11), s + 1);
        }
    }

    private static ClaimDesk explored(ClaimDesk desk) {
        desk.explore();
        return desk;
    }

    static void wayOfZero(Due due) {
        ClaimDesk desk = new ClaimDesk();
        Desks.addRound(desk, 0, 2);
        desk.add(0, 0, 0, Op.PASS);
        desk.explore();
        due.is("way(0, -1)", desk.way(0, -1), 0);
        due.is("way(0, 0)", desk.way(0, 0), ClaimDesk.NONE);
        due.is("way(0, 1)", desk.way(0, 1), ClaimDesk.NONE);
        ClaimDesk empty = new ClaimDesk();
        empty.explore();
        due.is("way(0, -1) of the only one", empty.way(0, -1), 0);
        due.is("way(0, 0) of the only one", empty.way(0, 0), ClaimDesk.NONE);
    }

    static void threeHundredAndOne(Due due) {
        due.is("300 in a row", Desks.longRow().explore(), 300);
        due.is("300 with many ways", Desks.threeHundred().explore(), 300);
        ClaimDesk back = Desks.longRow();
        back.add(1, 0, 0, Op.is(3, 0));
        due.is("from the 300th to one that has a number", back.explore(), 300);
        due.is("pairs", back.count(3), 300);
        ClaimDesk desk = Desks.tooLong();
        desk.claim(3, 0, 0);
        due.is("from the 300th to a 301st", desk.explore(), ClaimDesk.LARGE);
        NoSpace.in(due, desk);
        desk.change(11, 1, 1, 1, Op.PASS);
        due.is("without the 301st", desk.explore(), 300);
        ClaimDesk many = new ClaimDesk();
        for (int p = 0; p < 3; p++) {
            Desks.addRound(many, p, 8);
        }
        due.is("512", many.explore(), ClaimDesk.LARGE);
        NoSpace.in(due, many);
    }

    static void stuck(Due due) {
        int[] open = {Op.PASS, Op.is(0, 0), Op.isNot(0, 1), Op.set(0, 0), Op.add(0, 0), Op.copy(0, 1)};
        for (int op : open) {
            due.is("STUCK ones with op " + op, stuckWith(0, op), 0);
            due.is("STUCK ones with op " + op + " elsewhere", stuckWith(1, op), 1);
        }
        due.is("STUCK ones with IS not so", stuckWith(0, Op.is(0, 1)), 1);
        due.is("STUCK ones with IS NOT not so", stuckWith(0, Op.isNot(0, 0)), 1);
        due.is("STUCK ones with nothing to TAKE", stuckWith(0, Op.take(0)), 1);
        due.is("STUCK ones with the CHANNEL full at last", stuckWith(0, Op.send(0)), 1);
        ClaimDesk none = new ClaimDesk();
        none.explore();
        due.is("STUCK ones with no TRANSITION", none.count(5), 1);
    }

    /** One TRANSITION that stays where it is. */
    private static int stuckWith(int place, int op) {
        ClaimDesk desk = new ClaimDesk();
        desk.add(0, place, place, op);
        desk.explore();
        return desk.count(5);
    }

    /** The PROCESSES of the mask go to PLACE 7, the others to 6. */
    static void done(Due due) {
        for (int mask = 0; mask < 8; mask++) {
            ClaimDesk desk = new ClaimDesk();
            for (int p = 0; p < 3; p++) {
                desk.add(p, 0, (mask >> p & 1) == 1 ? 7 : 6, Op.set(p, 3));
            }
            due.is("explore()", desk.explore(), 8);
            due.is("STUCK ones of " + mask, desk.count(5), 1);
            due.is("DONE ones of " + mask, desk.count(6), mask == 7 ? 1 : 0);
            due.is("stuck(true) of " + mask, desk.stuck(true), mask == 7 ? 7 : ClaimDesk.NONE);
            due.is("stuck(false) of " + mask, desk.stuck(false), mask == 7 ? ClaimDesk.NONE : 7);
        }
        for (int p = 0; p < 3; p++) {
            ClaimDesk desk = Desks.allToSeven();
            desk.add(p, 7, 7, Op.PASS);
            due.is("explore()", desk.explore(), 8);
            due.is("DONE ones if " + p + " can still go on", desk.count(6), 0);
            due.is("stuck(true)", desk.stuck(true), ClaimDesk.NONE);
            due.is("stuck(false)", desk.stuck(false), ClaimDesk.NONE);
        }
    }
}
