public final class P12StateTest {
    public static void main(String[] args) {
        Due due = new Due();
        everyPart(due);
        whatItLeadsTo(due);
        noneAndRefused(due);
        due.end();
    }

    private static void everyPart(Due due) {
        ClaimDesk desk = new ClaimDesk();
        desk.begin(0b00_01_10_11);
        desk.add(0, 0, 5, Op.send(0));
        desk.add(1, 0, 6, Op.send(2));
        desk.add(2, 0, 7, Op.take(3));
        desk.explore();
        int[][] due0 = {
            {0, 0, 0, 3, 2, 1, 0, 0, ClaimDesk.NONE, ClaimDesk.NONE},
            {5, 0, 0, 3, 2, 1, 0, 1, 3, ClaimDesk.NONE},
            {0, 6, 0, 3, 2, 1, 0, 1, 1, ClaimDesk.NONE},
            {5, 6, 0, 3, 2, 1, 0, 2, 3, 1},
            {5, 0, 7, 3, 2, 1, 3, 0, ClaimDesk.NONE, ClaimDesk.NONE},
            {5, 6, 0, 3, 2, 1, 0, 2, 1, 3},
            {0, 6, 7, 3, 2, 1, 1, 0, ClaimDesk.NONE, ClaimDesk.NONE},
            {5, 6, 7, 3, 2, 1, 3, 1, 1, ClaimDesk.NONE},
            {5, 6, 7, 3, 2, 1, 1, 1, 3, ClaimDesk.NONE},
        };
        due.is("count(2)", desk.count(2), due0.length);
        for (int s = 0; s < due0.length; s++) {
            for (int what = 0; what < 10; what++) {
                due.is("state(" + s + ", " + what + ")", desk.state(s, what), due0[s][what]);
            }
        }
    }

    private static void whatItLeadsTo(Due due) {
        ClaimDesk desk = new ClaimDesk();
        desk.add(1, 3, 4, Op.PASS);
        desk.add(0, 0, 2, Op.PASS);
        desk.add(0, 0, 1, Op.PASS);
        desk.add(0, 0, 2, Op.PASS);
        desk.add(0, 0, 0, Op.PASS);
        desk.add(0, 2, 0, Op.PASS);
        desk.add(0, 2, 1, Op.PASS);
        due.is("explore()", desk.explore(), 3);
        int[][] due1 = {{4, 3, 1}, {2, 2, 0}, {0, 0, ClaimDesk.NONE}};
        for (int s = 0; s < 3; s++) {
            for (int what = 10; what <= 12; what++) {
                due.is("state(" + s + ", " + what + ")", desk.state(s, what), due1[s][what - 10]);
            }
        }
        ClaimDesk loops = new ClaimDesk();
        for (int t = 0; t < 24; t++) {
            loops.add(0, 0, t % 5, Op.PASS);
        }
        loops.explore();
        due.is("state(0, 10) of 24", loops.state(0, 10), 24);
        due.is("state(0, 11) of 24", loops.state(0, 11), 5);
        due.is("state(0, 12) of 24", loops.state(0, 12), 0);
    }

    private static void noneAndRefused(Due due) {
        ClaimDesk desk = Desks.chain(2);
        int[] wrong = {-1, 13, 14, 300, Integer.MAX_VALUE, Integer.MIN_VALUE};
        for (int what = 0; what <= 12; what++) {
            due.is("state(0, " + what + ") with no SPACE", desk.state(0, what), ClaimDesk.NONE);
        }
        for (int w : wrong) {
            due.is("state(0, " + w + ") with no SPACE", desk.state(0, w), ClaimDesk.REFUSED);
        }
        desk.explore();
        for (int w : wrong) {
            due.is("state(0, " + w + ")", desk.state(0, w), ClaimDesk.REFUSED);
            due.is("state(99, " + w + ")", desk.state(99, w), ClaimDesk.REFUSED);
            due.is("state(" + w + ", 0)", desk.state(w, 0), ClaimDesk.NONE);
            due.is("state(" + w + ", 12)", desk.state(w, 12), ClaimDesk.NONE);
        }
        due.is("state(2, 0)", desk.state(2, 0), 2);
        due.is("state(3, 0)", desk.state(3, 0), ClaimDesk.NONE);
    }
}
