public final class P11WayTest {
    public static void main(String[] args) {
        Due due = new Due();
        theShortestByNumbers(due);
        noneSuch(due);
        everyWayLeadsThere(due);
        due.end();
    }

    private static void theShortestByNumbers(Due due) {
        ClaimDesk desk = new ClaimDesk();
        desk.add(0, 0, 1, Op.PASS);
        desk.add(0, 1, 2, Op.PASS);
        desk.add(0, 2, 3, Op.PASS);
        desk.add(0, 0, 2, Op.PASS);
        desk.add(0, 0, 2, Op.PASS);
        due.is("explore()", desk.explore(), 4);
        due.is("way(0, -1)", desk.way(0, -1), 0);
        due.is("way(0, 0)", desk.way(0, 0), ClaimDesk.NONE);
        due.is("way(1, -1)", desk.way(1, -1), 1);
        due.is("way(1, 0)", desk.way(1, 0), 0);
        due.is("way(2, -1)", desk.way(2, -1), 1);
        due.is("way(2, 0)", desk.way(2, 0), 3);
        due.is("way(3, -1)", desk.way(3, -1), 2);
        due.is("way(3, 0)", desk.way(3, 0), 3);
        due.is("way(3, 1)", desk.way(3, 1), 2);
        due.is("way(3, 2)", desk.way(3, 2), ClaimDesk.NONE);
    }

    private static void noneSuch(Due due) {
        ClaimDesk desk = Desks.chain(2);
        due.is("way(0, -1) with no SPACE", desk.way(0, -1), ClaimDesk.NONE);
        desk.explore();
        int[] wrong = {-2, 3, 300, Integer.MAX_VALUE, Integer.MIN_VALUE};
        for (int w : wrong) {
            due.is("way(2, " + w + ")", desk.way(2, w), ClaimDesk.NONE);
            due.is("way(" + w + ", 0)", desk.way(w, 0), ClaimDesk.NONE);
            due.is("way(" + w + ", -1)", desk.way(w, -1), ClaimDesk.NONE);
        }
        due.is("way(-1, -1)", desk.way(-1, -1), ClaimDesk.NONE);
        desk.begin(0);
        due.is("way(1, 0) when the SPACE is gone", desk.way(1, 0), ClaimDesk.NONE);
    }

    private static void everyWayLeadsThere(Due due) {
        for (int s = 0; s < 300; s++) {
            ClaimDesk desk = Desks.threeHundred();
            desk.explore();
            int length = desk.way(s, -1);
            for (int k = 0; k < length; k++) {
                due.yes("step " + k + " of the WAY of " + s, desk.walk(desk.way(s, k)));
            }
            due.is("the end of the WAY of " + s, desk.now(11), s);
            due.is("one more step", desk.way(s, length), ClaimDesk.NONE);
        }
    }
}
