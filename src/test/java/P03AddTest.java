public final class P03AddTest {
    public static void main(String[] args) {
        Due due = new Due();
        numbersAndFull(due);
        spaceGoesAndStateStays(due);
        wrongNumbers(due);
        edgesAreTaken(due);
        opIsKindAndNumbers(due);
        due.end();
    }

    private static void numbersAndFull(Due due) {
        ClaimDesk desk = new ClaimDesk();
        for (int t = 0; t < 24; t++) {
            due.is("add", desk.add(t % 3, t % 8, (t + 1) % 8, t * 5), t);
            due.is("count(0)", desk.count(0), t + 1);
        }
        int states = desk.explore();
        due.is("add(0, 0, 1, 0) as the 25th", desk.add(0, 0, 1, 0), ClaimDesk.FULL);
        due.is("count(0)", desk.count(0), 24);
        due.is("count(2) stays when FULL", desk.count(2), states < 0 ? ClaimDesk.NONE : states);
        due.is("add(3, 0, 1, 0) as the 25th", desk.add(3, 0, 1, 0), ClaimDesk.REFUSED);
        due.is("add(0, 0, 1, 128) as the 25th", desk.add(0, 0, 1, 128), ClaimDesk.REFUSED);
        ClaimDesk full = new ClaimDesk();
        for (int t = 0; t < 24; t++) {
            full.add(0, 0, 0, Op.PASS);
        }
        full.explore();
        due.is("add when FULL", full.add(1, 0, 1, 0), ClaimDesk.FULL);
        due.is("the SPACE stays", full.count(2), 1);
        due.is("state(0, 10)", full.state(0, 10), 24);
        full.clear();
        due.is("add after clear", full.add(0, 0, 1, 0), 0);
    }

    private static void spaceGoesAndStateStays(Due due) {
        ClaimDesk desk = Desks.chain(3);
        desk.explore();
        desk.walk(0);
        due.is("now(11)", desk.now(11), 1);
        due.is("add", desk.add(1, 0, 1, Op.PASS), 3);
        due.is("count(2)", desk.count(2), ClaimDesk.NONE);
        due.is("now(0)", desk.now(0), 1);
        due.is("now(13)", desk.now(13), 1);
        due.is("now(10)", desk.now(10), 2);
    }

    private static void wrongNumbers(Due due) {
        ClaimDesk desk = Desks.chain(1);
        desk.explore();
        int[][] wrong = {
            {-1, 0, 0, 0}, {3, 0, 0, 0}, {0, -1, 0, 0}, {0, 8, 0, 0}, {0, 0, -1, 0}, {0, 0, 8, 0},
            {0, 0, 0, -1}, {0, 0, 0, 128}, {Integer.MAX_VALUE, 0, 0, 0}, {0, Integer.MIN_VALUE, 0, 0},
            {0, 0, Integer.MAX_VALUE, 0}, {0, 0, 0, Integer.MIN_VALUE}, {0, 0, 0, Integer.MAX_VALUE},
        };
        for (int[] w : wrong) {
            due.is("add(" + w[0] + ", " + w[1] + ", " + w[2] + ", " + w[3] + ")",
                    desk.add(w[0], w[1], w[2], w[3]), ClaimDesk.REFUSED);
            due.is("count(0)", desk.count(0), 1);
            due.is("count(2)", desk.count(2), 2);
        }
    }

    private static void edgesAreTaken(Due due) {
        ClaimDesk desk = new ClaimDesk();
        due.is("add(0, 0, 0, 0)", desk.add(0, 0, 0, 0), 0);
        due.is("add(2, 7, 7, 127)", desk.add(2, 7, 7, 127), 1);
        due.is("add(2, 0, 7, 0)", desk.add(2, 0, 7, 0), 2);
        due.yes("walk(2)", desk.walk(2));
        due.is("now(2)", desk.now(2), 7);
    }

    private static void opIsKindAndNumbers(Due due) {
        ClaimDesk desk = new ClaimDesk();
        desk.add(0, 0, 0, 3 * 16 + 2 * 4 + 1);
        due.yes("walk(0)", desk.walk(0));
        due.is("VARIABLE 2", desk.now(5), 1);
        due.is("VARIABLE 0", desk.now(3), 0);
        due.is("VARIABLE 1", desk.now(4), 0);
        due.is("VARIABLE 3", desk.now(6), 0);
    }
}
