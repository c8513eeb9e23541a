public final class P04ChangeTest {
    public static void main(String[] args) {
        Due due = new Due();
        anotherOne(due);
        wrongNumbersChangeNothing(due);
        due.end();
    }

    private static void anotherOne(Due due) {
        ClaimDesk desk = Desks.chain(3);
        due.is("explore()", desk.explore(), 4);
        desk.walk(0);
        due.yes("change(1, 2, 0, 7, set)", desk.change(1, 2, 0, 7, Op.set(3, 2)));
        due.is("count(2)", desk.count(2), ClaimDesk.NONE);
        due.is("count(0)", desk.count(0), 3);
        due.is("now(0)", desk.now(0), 1);
        due.is("now(13)", desk.now(13), 1);
        due.yes("walk(1)", desk.walk(1));
        due.is("now(0)", desk.now(0), 1);
        due.is("now(2)", desk.now(2), 7);
        due.is("now(6)", desk.now(6), 2);
        due.no("walk(2)", desk.walk(2));
        due.is("explore()", desk.explore(), 4);
        due.yes("change to the same one", desk.change(0, 0, 0, 1, Op.PASS));
        due.is("count(2)", desk.count(2), ClaimDesk.NONE);
        due.yes("change of the last one", desk.change(2, 0, 1, 1, 127));
    }

    private static void wrongNumbersChangeNothing(Due due) {
        ClaimDesk desk = Desks.chain(2);
        desk.explore();
        int[][] wrong = {
            {-1, 0, 0, 0, 0}, {2, 0, 0, 0, 0}, {24, 0, 0, 0, 0}, {Integer.MAX_VALUE, 0, 0, 0, 0},
            {Integer.MIN_VALUE, 0, 0, 0, 0}, {0, -1, 0, 0, 0}, {0, 3, 0, 0, 0}, {0, 0, -1, 0, 0},
            {0, 0, 8, 0, 0}, {0, 0, 0, -1, 0}, {0, 0, 0, 8, 0}, {0, 0, 0, 0, -1}, {0, 0, 0, 0, 128},
        };
        for (int[] w : wrong) {
            due.no("change(" + w[0] + ", " + w[1] + ", " + w[2] + ", " + w[3] + ", " + w[4] + ")",
                    desk.change(w[0], w[1], w[2], w[3], w[4]));
            due.is("count(0)", desk.count(0), 2);
            due.is("count(2)", desk.count(2), 3);
        }
        due.yes("walk(0)", desk.walk(0));
        due.is("now(0)", desk.now(0), 1);
        ClaimDesk empty = new ClaimDesk();
        due.no("change with no TRANSITION", empty.change(0, 0, 0, 0, 0));
        due.is("count(0)", empty.count(0), 0);
        desk.clear();
        due.no("change after clear", desk.change(0, 0, 0, 1, 0));
    }
}
