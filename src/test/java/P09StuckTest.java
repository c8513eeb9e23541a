public final class P09StuckTest {
    public static void main(String[] args) {
        Due due = new Due();
        doneAndNot(due);
        openAtSevenIsNotStuck(due);
        waitingIsStuck(due);
        due.end();
    }

    private static void doneAndNot(Due due) {
        ClaimDesk desk = Desks.allToSeven();
        due.is("stuck(true) with no SPACE", desk.stuck(true), ClaimDesk.NONE);
        due.is("stuck(false) with no SPACE", desk.stuck(false), ClaimDesk.NONE);
        due.is("explore()", desk.explore(), 8);
        due.is("stuck(true)", desk.stuck(true), 7);
        due.is("stuck(false)", desk.stuck(false), ClaimDesk.NONE);
        desk.add(1, 0, 6, Op.PASS);
        due.is("explore()", desk.explore(), 12);
        due.is("stuck(true)", desk.stuck(true), 10);
        due.is("stuck(false)", desk.stuck(false), 11);
        desk.change(0, 0, 0, 5, Op.PASS);
        desk.explore();
        due.is("stuck(true)", desk.stuck(true), ClaimDesk.NONE);
        due.is("stuck(false)", desk.stuck(false), 10);
        ClaimDesk empty = new ClaimDesk();
        empty.explore();
        due.is("stuck(false) with no TRANSITION", empty.stuck(false), 0);
        due.is("stuck(true) with no TRANSITION", empty.stuck(true), ClaimDesk.NONE);
    }

    private static void openAtSevenIsNotStuck(Due due) {
        ClaimDesk desk = Desks.allToSeven();
        desk.add(2, 7, 7, Op.PASS);
        desk.explore();
        due.is("stuck(true)", desk.stuck(true), ClaimDesk.NONE);
        due.is("stuck(false)", desk.stuck(false), ClaimDesk.NONE);
        due.is("count(5)", desk.count(5), 0);
    }

    private static void waitingIsStuck(Due due) {
        ClaimDesk desk = new ClaimDesk();
        desk.add(0, 0, 1, Op.take(0));
        desk.add(1, 0, 1, Op.is(0, 1));
        desk.explore();
        due.is("stuck(false)", desk.stuck(false), 0);
        desk.add(2, 0, 0, Op.send(3));
        due.is("explore()", desk.explore(), 6);
        due.is("stuck(false) when the CHANNEL is full", desk.stuck(false), 5);
    }
}
